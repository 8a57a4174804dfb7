import java.util.Arrays;

/** A valley with two echoes; ../shared/DOC.md says what each call answers. */
public final class TwoEchoes {
    public static final int NONE = -1;

    /** What is answered where NONE has a meaning of its own. */
    private static final int REFUSED = -2;

    private static final int VALLEYS = 0;
    private static final int DAYS = 1;
    private static final int LESSONS = 2;
    private static final int SIGHTS = 3;
    private static final int SORTS = 4;
    private static final int MOST_OF_A_SORT = 2;
    private static final int IMAGES = 3;

    private static final int MOST_BYTES = 600;
    private static final int BYTES_A_FEED = 20;
    private static final int WORDS = 8;
    private static final int ALL_WORDS = 255;
    private static final int THOUGHTS = 10;
    private static final int MINUTES = 100;
    private static final int PRICES = 100;
    private static final int MOST_WIDE = 30;
    private static final int MOST_PEOPLE = 6;
    private static final int MOST_SKIES = 4;
    private static final int MOST_DEEDS = 40;
    private static final int MOST_PAIRS = 10;
    private static final int MOST_FACTS = 8;
    private static final int MOST_DRAWN = 60;
    private static final int MOST_CALLS = 6;
    private static final int RULES = 64;

    private static final int SELLER = 0;
    private static final int BUYER = 1;

    private static final int SHOUT = 2;
    private static final int WALK = 3;
    private static final int WAIT = 4;
    private static final int[] RANGE = {6, 18, 99};

    private static final int VOICE = 0;
    private static final int LEFT = 1;
    private static final int RIGHT = 2;

    private static final int FOG = 1;
    private static final int SNOW = 2;

    private final Told told;
    private final Told[] images;
    private final Reader reader;
    private final Course course;
    private final Search search;
    private final Trade trade;
    private final Company company;

    public TwoEchoes() {
        told = new Told();
        images = new Told[IMAGES];
        reader = new Reader(told.tape);
        course = new Course();
        search = new Search();
        trade = new Trade();
        company = new Company();
    }

    public int feed(int a, int b, int c, int d, int e) {
        if (told.length + BYTES_A_FEED > MOST_BYTES) {
            return NONE;
        }
        told.put(a);
        told.put(b);
        told.put(c);
        told.put(d);
        told.put(e);
        return told.length;
    }

    public int end(int n) {
        if (n < 0 || n > told.length) {
            return NONE;
        }
        told.length = n;
        return n;
    }

    public int text(int sort, int at) {
        int length = told.length;
        told.length = 0;
        told.fault = 0;
        told.faultPlace = NONE;
        int slot = told.slotFor(sort, at);
        if (slot == NONE) {
            return REFUSED;
        }
        reader.read(length, sort);
        told.fault = reader.fault;
        told.faultPlace = reader.faultPlace;
        if (told.fault != 0) {
            return NONE;
        }
        told.keep(sort, slot, reader);
        return slot;
    }

    public int fault(int what) {
        if (what == 0) {
            return told.fault;
        }
        return what == 1 ? told.faultPlace : NONE;
    }

    public int valley(int valley, int what) {
        Valley v = valleyAt(valley);
        return v == null ? NONE : v.tell(what);
    }

    public int heard(int valley, int from, int word, int loud, int minute, int to, int by) {
        Valley v = valleyAt(valley);
        if (v == null || !v.hasPlace(from) || !isWord(word) || !isLoud(loud)) {
            return NONE;
        }
        if (!isMinute(minute) || !v.hasPlace(to) || by < VOICE || by > RIGHT) {
            return NONE;
        }
        return v.arrival(from, word, loud, minute, to, by);
    }

    public int gives(int valley, int word, int minute, int by) {
        Valley v = valleyAt(valley);
        if (v == null || !isWord(word) || !isMinute(minute)) {
            return NONE;
        }
        return by == LEFT || by == RIGHT ? v.wordBy(word, minute, by) : NONE;
    }

    public int deed(int day, int k, int what) {
        Day d = dayAt(day);
        return d == null ? REFUSED : d.tell(k, what);
    }

    public int stop(int valley, int day) {
        Valley v = valleyAt(valley);
        Day d = dayAt(day);
        if (v == null || d == null) {
            return NONE;
        }
        return course.follow(v, d, d.deeds);
    }

    public int state(int valley, int day, int n, int what) {
        Valley v = valleyAt(valley);
        Day d = dayAt(day);
        if (v == null || d == null || n < 0) {
            return REFUSED;
        }
        if (course.follow(v, d, n) != n) {
            return REFUSED;
        }
        return course.tell(v, what);
    }

    public int hush(int valley, int people, int loud, int minute, boolean least) {
        Valley v = valleyAt(valley);
        if (v == null || people < 0 || people >= 1 << v.people) {
            return REFUSED;
        }
        if (!isLoud(loud) || !isMinute(minute)) {
            return REFUSED;
        }
        return least ? Company.leastSilent(v, people, loud, minute)
            : Company.silentPlaces(v, people, loud, minute);
    }

    public int crowd(int valley, int loud, int minute, boolean many) {
        Valley v = valleyAt(valley);
        if (v == null || !isLoud(loud) || !isMinute(minute)) {
            return NONE;
        }
        int place = Company.fullestPlace(v, loud, minute);
        return many ? Company.judgedHearers(v, place, loud, minute) : place;
    }

    public int chain(int valley, int from, int to) {
        Valley v = valleyAt(valley);
        if (v == null || !isWord(from) || !isWord(to)) {
            return NONE;
        }
        return Words.sayingsUntil(v, from, to);
    }

    public int late(int valley, int place, int word) {
        Valley v = valleyAt(valley);
        if (v == null || !v.hasPlace(place) || !isWord(word)) {
            return NONE;
        }
        return v.way(place, place, RIGHT) + v.thought[word];
    }

    public int market(int valley, int what) {
        Valley v = valleyAt(valley);
        if (v == null) {
            return NONE;
        }
        switch (what) {
            case 0:
                return Trade.gain(v);
            case 1:
                return Trade.couples(v);
            case 2:
                return Trade.leastPrice(v);
            case 3:
                return Trade.greatestPrice(v);
            default:
                return NONE;
        }
    }

    public int bargain(int valley, int seller, int buyer, boolean traded) {
        Valley v = valleyAt(valley);
        if (v == null || !v.isOfKind(seller, SELLER) || !v.isOfKind(buyer, BUYER)) {
            return NONE;
        }
        return trade.rests(v.wish[seller], v.wish[buyer], traded);
    }

    public int talk(int valley, int n) {
        Valley v = valleyAt(valley);
        if (v == null) {
            return NONE;
        }
        if (n == NONE) {
            return Words.fewestAnswers(v, Words.DEEPEST_TREE);
        }
        if (n < Words.FLATTEST_TREE || n > Words.DEEPEST_TREE) {
            return NONE;
        }
        return Words.fewestAnswers(v, n);
    }

    public int lesson(int lesson, int what) {
        Lesson l = lessonAt(lesson);
        return l == null ? NONE : l.tell(what);
    }

    public int rules(int lesson, int what) {
        Lesson l = lessonAt(lesson);
        if (l == null) {
            return REFUSED;
        }
        switch (what) {
            case 0:
                return l.fits();
            case 1:
                return l.misses(l.bestRule());
            case 2:
                return l.bestRule();
            case 3:
                return l.wordToCall();
            default:
                return isWord(what - 10) ? l.surelyComes(what - 10) : REFUSED;
        }
    }

    public int fact(int sight, int k, int what) {
        Sight s = sightAt(sight);
        return s == null ? REFUSED : s.tell(k, what);
    }

    public int said(int valley, int sight, int k) {
        Valley v = valleyAt(valley);
        Sight s = sightAt(sight);
        if (v == null || s == null || !s.isWithin(v)) {
            return NONE;
        }
        return k == NONE ? Search.howMany(v, s) : Search.numbered(v, s, k);
    }

    public int spot(int valley, int sight, boolean listen) {
        Valley v = valleyAt(valley);
        Sight s = sightAt(sight);
        if (v == null || s == null || !s.isWithin(v)) {
            return NONE;
        }
        return listen ? search.whereToListen(v, s) : Search.onlyPlace(v, s);
    }

    public int drawn(int valley, int seed, int n, int what) {
        Valley v = valleyAt(valley);
        if (v == null || v.people == 0 || n < 0 || n > MOST_DRAWN) {
            return REFUSED;
        }
        course.draw(v, seed, n);
        return course.tell(v, what);
    }

    public int rings(int valley, int what) {
        Valley v = valleyAt(valley);
        if (v == null) {
            return NONE;
        }
        switch (what) {
            case 0:
                return Words.ringCount(v);
            case 1:
                return Words.longestRing(v);
            case 2:
                return Words.wordsInRings(v);
            default:
                return NONE;
        }
    }

    public long unsure(int valley, int n, boolean under) {
        Valley v = valleyAt(valley);
        if (v == null || n < 0 || n > MOST_CALLS) {
            return NONE;
        }
        long all = Words.weightOfAll(v);
        long own = Words.weightOfSelfSame(v);
        long shared = Words.commonDivisor(own, all);
        if (all == 0 || shared == 0) {
            return NONE;
        }
        return Words.power((under ? all : own) / shared, n);
    }

    public int spread(int valley, int person, int loud, boolean minute) {
        Valley v = valleyAt(valley);
        if (v == null || !v.hasPerson(person) || !isLoud(loud)) {
            return NONE;
        }
        company.reach(v, person, loud, false);
        return minute ? company.lastReached() : company.howManyReached();
    }

    public int guards(int valley, int loud) {
        Valley v = valleyAt(valley);
        if (v == null || !isLoud(loud)) {
            return NONE;
        }
        return Company.fewestGuards(v, loud);
    }

    public int middle(int valley, int what) {
        Valley v = valleyAt(valley);
        if (v == null) {
            return NONE;
        }
        switch (what) {
            case 0:
                return Company.nearestPlace(v, false);
            case 1:
                return Company.farness(v, Company.nearestPlace(v, false), false);
            case 2:
                return Company.nearestPlace(v, true);
            case 3:
                return Company.farness(v, Company.nearestPlace(v, true), true);
            default:
                return NONE;
        }
    }

    public int auction(int valley, int seller, boolean price) {
        Valley v = valleyAt(valley);
        if (v == null || !v.isOfKind(seller, SELLER)) {
            return NONE;
        }
        int winner = Trade.greatestBuyer(v, NONE);
        if (winner == NONE || v.wish[winner] < v.wish[seller]) {
            return NONE;
        }
        return price ? Trade.priceFor(v, seller, winner) : winner;
    }

    public int relayed(int valley, int from, int to, int loud) {
        Valley v = valleyAt(valley);
        if (v == null || !v.hasPerson(from) || !v.hasPerson(to) || !isLoud(loud)) {
            return NONE;
        }
        company.reach(v, from, loud, true);
        return company.reached[to];
    }

    public int weather(int valley, int minute) {
        Valley v = valleyAt(valley);
        if (v == null) {
            return NONE;
        }
        if (minute == NONE) {
            return v.longestClear();
        }
        return isMinute(minute) ? v.sky[minute] : NONE;
    }

    public int matched(int valley, int person) {
        Valley v = valleyAt(valley);
        if (v == null || !v.hasPerson(person)) {
            return NONE;
        }
        company.match(v);
        return company.partner[person];
    }

    public int count(int sort) {
        return sort < 0 || sort >= SORTS ? REFUSED : told.counts[sort];
    }

    public boolean image(int k) {
        if (k < 0 || k >= IMAGES) {
            return false;
        }
        if (images[k] == null) {
            images[k] = new Told();
        }
        images[k].copyFrom(told);
        return true;
    }

    public boolean again(int k) {
        if (k < 0 || k >= IMAGES || images[k] == null) {
            return false;
        }
        told.copyFrom(images[k]);
        return true;
    }

    private Valley valleyAt(int at) {
        return at < 0 || at >= told.counts[VALLEYS] ? null : told.valleys[at];
    }

    private Day dayAt(int at) {
        return at < 0 || at >= told.counts[DAYS] ? null : told.days[at];
    }

    private Lesson lessonAt(int at) {
        return at < 0 || at >= told.counts[LESSONS] ? null : told.lessons[at];
    }

    private Sight sightAt(int at) {
        return at < 0 || at >= told.counts[SIGHTS] ? null : told.sights[at];
    }

    private static boolean isWord(int word) {
        return word >= 0 && word < WORDS;
    }

    private static boolean isLoud(int loud) {
        return loud >= 0 && loud <= SHOUT;
    }

    private static boolean isMinute(int minute) {
        return minute >= 0 && minute < MINUTES;
    }

    /** All that has been told: what an image holds. */
    private static final class Told {
        final byte[] tape = new byte[MOST_BYTES];
        int length = 0;
        int fault = 0;
        int faultPlace = NONE;
        final int[] counts = new int[SORTS];
        final Valley[] valleys = {new Valley(), new Valley()};
        final Day[] days = {new Day(), new Day()};
        final Lesson[] lessons = {new Lesson(), new Lesson()};
        final Sight[] sights = {new Sight(), new Sight()};

        void put(int four) {
            for (int shift = 24; shift >= 0 && length < MOST_BYTES; shift -= 8) {
                tape[length] = (byte) (four >>> shift);
                length++;
            }
        }

        /** Where a text of a sort would go; NONE if it may not come. */
        int slotFor(int sort, int at) {
            if (sort < 0 || sort >= SORTS) {
                return NONE;
            }
            if (at == NONE) {
                return counts[sort] < MOST_OF_A_SORT ? counts[sort] : NONE;
            }
            return at >= 0 && at < counts[sort] ? at : NONE;
        }

        void keep(int sort, int slot, Reader reader) {
            switch (sort) {
                case VALLEYS:
                    valleys[slot].copyFrom(reader.valley);
                    break;
                case DAYS:
                    days[slot].copyFrom(reader.day);
                    break;
                case LESSONS:
                    lessons[slot].copyFrom(reader.lesson);
                    break;
                default:
                    sights[slot].copyFrom(reader.sight);
                    break;
            }
            counts[sort] = Math.max(counts[sort], slot + 1);
        }

        void copyFrom(Told other) {
            System.arraycopy(other.tape, 0, tape, 0, MOST_BYTES);
            length = other.length;
            fault = other.fault;
            faultPlace = other.faultPlace;
            System.arraycopy(other.counts, 0, counts, 0, SORTS);
            for (int k = 0; k < MOST_OF_A_SORT; k++) {
                valleys[k].copyFrom(other.valleys[k]);
                days[k].copyFrom(other.days[k]);
                lessons[k].copyFrom(other.lessons[k]);
                sights[k].copyFrom(other.sights[k]);
            }
        }
    }

    /** A VALLEY, and how sayings go about in it. */
    private static final class Valley {
        private static final int WIDE_AT_FIRST = 12;

        int wide;
        final int[] should = new int[WORDS];
        final int[] thought = new int[WORDS];
        final int[] weight = new int[WORDS];
        int people;
        final int[] kind = new int[MOST_PEOPLE];
        final int[] place = new int[MOST_PEOPLE];
        final int[] wish = new int[MOST_PEOPLE];
        int skies;
        final int[] skyKind = new int[MOST_SKIES];
        final int[] skyFrom = new int[MOST_SKIES];
        final int[] skyUpTo = new int[MOST_SKIES];
        /** FOG and SNOW of each minute as bits, so that no search goes through the FOGS each time. */
        final int[] sky = new int[MINUTES];

        void clear() {
            wide = WIDE_AT_FIRST;
            for (int word = 0; word < WORDS; word++) {
                should[word] = word;
                thought[word] = 0;
                weight[word] = 1;
            }
            people = 0;
            skies = 0;
            Arrays.fill(sky, 0);
        }

        void copyFrom(Valley other) {
            wide = other.wide;
            System.arraycopy(other.should, 0, should, 0, WORDS);
            System.arraycopy(other.thought, 0, thought, 0, WORDS);
            System.arraycopy(other.weight, 0, weight, 0, WORDS);
            people = other.people;
            System.arraycopy(other.kind, 0, kind, 0, MOST_PEOPLE);
            System.arraycopy(other.place, 0, place, 0, MOST_PEOPLE);
            System.arraycopy(other.wish, 0, wish, 0, MOST_PEOPLE);
            skies = other.skies;
            System.arraycopy(other.skyKind, 0, skyKind, 0, MOST_SKIES);
            System.arraycopy(other.skyFrom, 0, skyFrom, 0, MOST_SKIES);
            System.arraycopy(other.skyUpTo, 0, skyUpTo, 0, MOST_SKIES);
            System.arraycopy(other.sky, 0, sky, 0, MINUTES);
        }

        void addPerson(int aKind, int aPlace, int aWish) {
            if (people >= MOST_PEOPLE) {
                return;
            }
            kind[people] = aKind;
            place[people] = aPlace;
            wish[people] = aWish;
            people++;
        }

        void addSky(int bit, int from, int upTo) {
            if (skies >= MOST_SKIES) {
                return;
            }
            skyKind[skies] = bit == FOG ? 0 : 1;
            skyFrom[skies] = from;
            skyUpTo[skies] = upTo;
            skies++;
            for (int minute = from; minute <= upTo && minute < MINUTES; minute++) {
                sky[minute] |= bit;
            }
        }

        boolean hasPlace(int at) {
            return at >= 0 && at <= wide;
        }

        boolean hasPerson(int person) {
            return person >= 0 && person < people;
        }

        boolean isOfKind(int person, int aKind) {
            return hasPerson(person) && kind[person] == aKind;
        }

        boolean holdsItsPeople() {
            for (int person = 0; person < people; person++) {
                if (!hasPlace(place[person])) {
                    return false;
                }
            }
            return true;
        }

        int tell(int what) {
            if (what < 0) {
                return NONE;
            }
            int k = what % 10;
            if (what < 10) {
                return k == 0 ? wide : k == 1 ? people : k == 2 ? skies : NONE;
            }
            if (what < 40) {
                return isWord(k) ? tellWord(what / 10, k) : NONE;
            }
            if (what < 70) {
                return hasPerson(k) ? tellPerson(what / 10, k) : NONE;
            }
            return k < skies ? tellSky(what / 10, k) : NONE;
        }

        private int tellWord(int column, int word) {
            return column == 1 ? should[word] : column == 2 ? thought[word] : weight[word];
        }

        private int tellPerson(int column, int person) {
            return column == 4 ? kind[person] : column == 5 ? place[person] : wish[person];
        }

        private int tellSky(int column, int k) {
            switch (column) {
                case 7:
                    return skyKind[k];
                case 8:
                    return skyFrom[k];
                case 9:
                    return skyUpTo[k];
                default:
                    return NONE;
            }
        }

        int way(int from, int to, int by) {
            if (by == VOICE) {
                return Math.abs(from - to);
            }
            return by == LEFT ? from + to : 2 * wide - from - to;
        }

        int judge(int minute) {
            return (sky[minute] & FOG) != 0 ? LEFT : RIGHT;
        }

        boolean isMute(int by, int minute) {
            return by == LEFT && (sky[minute] & SNOW) != 0;
        }

        /** The WORD that comes by the VOICE or a wall; NONE from a wall that gives nothing. */
        int wordBy(int word, int minute, int by) {
            if (isMute(by, minute)) {
                return NONE;
            }
            return by == judge(minute) ? should[word] : word;
        }

        boolean carries(int from, int loud, int minute, int to, int by) {
            return !isMute(by, minute) && way(from, to, by) <= RANGE[loud];
        }

        int arrival(int from, int word, int loud, int minute, int to, int by) {
            int way = way(from, to, by);
            if (way > RANGE[loud] || isMute(by, minute)) {
                return NONE;
            }
            return minute + way + (by == judge(minute) ? thought[word] : 0);
        }

        int longestClear() {
            int longest = 0;
            int run = 0;
            for (int minute = 0; minute < MINUTES; minute++) {
                run = sky[minute] == 0 ? run + 1 : 0;
                longest = Math.max(longest, run);
            }
            return longest;
        }
    }

    /** A DAY as it is told: of each DEED what is done and its numbers. */
    private static final class Day {
        int deeds;
        final int[] act = new int[MOST_DEEDS];
        final int[] first = new int[MOST_DEEDS];
        final int[] second = new int[MOST_DEEDS];

        void clear() {
            deeds = 0;
        }

        void copyFrom(Day other) {
            deeds = other.deeds;
            System.arraycopy(other.act, 0, act, 0, MOST_DEEDS);
            System.arraycopy(other.first, 0, first, 0, MOST_DEEDS);
            System.arraycopy(other.second, 0, second, 0, MOST_DEEDS);
        }

        void add(int anAct, int aFirst, int aSecond) {
            if (deeds >= MOST_DEEDS) {
                return;
            }
            act[deeds] = anAct;
            first[deeds] = aFirst;
            second[deeds] = aSecond;
            deeds++;
        }

        int tell(int k, int what) {
            if (k == NONE) {
                return what == 0 ? deeds : REFUSED;
            }
            if (k < 0 || k >= deeds) {
                return REFUSED;
            }
            switch (what) {
                case 0:
                    return act[k];
                case 1:
                    return first[k];
                case 2:
                    return second[k];
                default:
                    return REFUSED;
            }
        }
    }

    /** A LESSON, and what it tells of the RULES. */
    private static final class Lesson {
        int lies;
        int pairs;
        final int[] spoken = new int[MOST_PAIRS];
        final int[] came = new int[MOST_PAIRS];

        void clear() {
            lies = 0;
            pairs = 0;
        }

        void copyFrom(Lesson other) {
            lies = other.lies;
            pairs = other.pairs;
            System.arraycopy(other.spoken, 0, spoken, 0, MOST_PAIRS);
            System.arraycopy(other.came, 0, came, 0, MOST_PAIRS);
        }

        void add(int aSpoken, int aCame) {
            if (pairs >= MOST_PAIRS) {
                return;
            }
            spoken[pairs] = aSpoken;
            came[pairs] = aCame;
            pairs++;
        }

        int tell(int what) {
            if (what == 0) {
                return lies;
            }
            if (what == 1) {
                return pairs;
            }
            if (what >= 10 && what < 10 + pairs) {
                return spoken[what - 10];
            }
            return what >= 20 && what < 20 + pairs ? came[what - 20] : NONE;
        }

        private static int comes(int rule, int word) {
            return ((rule >> 3) * word + (rule & 7)) & 7;
        }

        int misses(int rule) {
            int misses = 0;
            for (int k = 0; k < pairs; k++) {
                if (comes(rule, spoken[k]) != came[k]) {
                    misses++;
                }
            }
            return misses;
        }

        int fits() {
            int fits = 0;
            for (int rule = 0; rule < RULES; rule++) {
                if (misses(rule) <= lies) {
                    fits++;
                }
            }
            return fits;
        }

        int bestRule() {
            int best = 0;
            for (int rule = 1; rule < RULES; rule++) {
                if (misses(rule) < misses(best)) {
                    best = rule;
                }
            }
            return best;
        }

        /** The WORD that comes of a WORD by all RULES that fit, if it is one. */
        int surelyComes(int word) {
            int only = NONE;
            for (int rule = 0; rule < RULES; rule++) {
                if (misses(rule) > lies) {
                    continue;
                }
                int comes = comes(rule, word);
                if (only != NONE && only != comes) {
                    return NONE;
                }
                only = comes;
            }
            return only;
        }

        int wordToCall() {
            int best = NONE;
            int leastLeft = RULES + 1;
            for (int word = 0; word < WORDS && fits() > 0; word++) {
                int left = mostLeft(word);
                if (left < leastLeft) {
                    leastLeft = left;
                    best = word;
                }
            }
            return best;
        }

        private int mostLeft(int word) {
            int most = 0;
            for (int answer = 0; answer < WORDS; answer++) {
                most = Math.max(most, left(word, answer));
            }
            return most;
        }

        private int left(int word, int answer) {
            int left = 0;
            for (int rule = 0; rule < RULES; rule++) {
                if (comes(rule, word) == answer && misses(rule) <= lies) {
                    left++;
                }
            }
            return left;
        }
    }

    /** A SIGHT as it is told. */
    private static final class Sight {
        int facts;
        final int[] wasHeard = new int[MOST_FACTS];
        final int[] place = new int[MOST_FACTS];
        final int[] minute = new int[MOST_FACTS];
        final int[] word = new int[MOST_FACTS];

        void clear() {
            facts = 0;
        }

        void copyFrom(Sight other) {
            facts = other.facts;
            System.arraycopy(other.wasHeard, 0, wasHeard, 0, MOST_FACTS);
            System.arraycopy(other.place, 0, place, 0, MOST_FACTS);
            System.arraycopy(other.minute, 0, minute, 0, MOST_FACTS);
            System.arraycopy(other.word, 0, word, 0, MOST_FACTS);
        }

        void add(int heardOrNot, int aPlace, int aMinute, int aWord) {
            if (facts >= MOST_FACTS) {
                return;
            }
            wasHeard[facts] = heardOrNot;
            place[facts] = aPlace;
            minute[facts] = aMinute;
            word[facts] = aWord;
            facts++;
        }

        int tell(int k, int what) {
            if (k == NONE) {
                return what == 0 ? facts : REFUSED;
            }
            if (k < 0 || k >= facts) {
                return REFUSED;
            }
            switch (what) {
                case 0:
                    return wasHeard[k];
                case 1:
                    return place[k];
                case 2:
                    return minute[k];
                case 3:
                    return word[k];
                default:
                    return REFUSED;
            }
        }

        boolean isWithin(Valley valley) {
            for (int k = 0; k < facts; k++) {
                if (!valley.hasPlace(place[k])) {
                    return false;
                }
            }
            return true;
        }
    }

    /** Reads the tape into drafts, so that a text with a FAULT changes nothing that was told. */
    private static final class Reader {
        private static final int AT_END = 0;
        private static final int LETTERS = 1;
        private static final int NUMBER = 2;
        private static final int SEMICOLON = 3;
        private static final int NO_TOKEN = 4;

        private static final int WIDE = 0;
        private static final int SHOULD = 1;
        private static final int THOUGHT = 2;
        private static final int WEIGHT = 3;
        private static final int FIRST_KIND = 4;
        private static final int LAST_KIND = 6;
        private static final int FOG_LINE = 7;
        private static final int SNOW_LINE = 8;
        private static final int FIRST_ACT = 9;
        private static final int WAIT_LINE = 13;
        private static final int GAVE = 14;
        private static final int LIES = 15;
        private static final int NOT = 16;
        private static final int HEARD = 17;

        private static final int MOST_NUMBERS = 3;
        /** The first line word of each sort, and one behind the last of all. */
        private static final int[] FIRST_OF_SORT = {WIDE, FIRST_ACT, GAVE, NOT, HEARD + 1};
        private static final int[] NUMBERS = {1, 2, 2, 2, 2, 2, 2, 2, 2, 2, 2, 2, 2, 1, 2, 1, 3, 3};
        /** The greatest that each of a line's numbers may be, three a line. */
        private static final int[] GREATEST = {
            30, 0, 0, 7, 7, 0, 7, 9, 0, 7, 99, 0, 30, 99, 0, 30, 99, 0, 30, 99, 0, 99, 99, 0, 99, 99, 0,
            5, 7, 0, 5, 7, 0, 5, 7, 0, 5, 30, 0, 60, 0, 0, 7, 7, 0, 9, 0, 0, 30, 99, 7, 30, 99, 7,
        };

        final Valley valley = new Valley();
        final Day day = new Day();
        final Lesson lesson = new Lesson();
        final Sight sight = new Sight();
        int fault = 0;
        int faultPlace = NONE;

        private final byte[] tape;
        private int length = 0;
        private int token = AT_END;
        private int start = 0;
        private int behind = 0;
        private final int[] numbers = new int[MOST_NUMBERS];
        private final int[] places = new int[MOST_NUMBERS];

        Reader(byte[] tape) {
            this.tape = tape;
        }

        void read(int bytes, int sort) {
            length = Math.min(bytes, tape.length);
            fault = 0;
            faultPlace = NONE;
            behind = 0;
            clearDraft(sort);
            advance();
            for (int lines = 0; lines <= length && token != AT_END && fault != 1; lines++) {
                readLine(sort);
            }
            if (fault == 0 && sort == VALLEYS && !valley.holdsItsPeople()) {
                mark(4, length);
            }
        }

        private void clearDraft(int sort) {
            switch (sort) {
                case VALLEYS:
                    valley.clear();
                    break;
                case DAYS:
                    day.clear();
                    break;
                case LESSONS:
                    lesson.clear();
                    break;
                default:
                    sight.clear();
                    break;
            }
        }

        private void readLine(int sort) {
            int first = start;
            int line = lineWord(sort);
            if (line == NONE) {
                breakOff();
                return;
            }
            advance();
            for (int k = 0; k < NUMBERS[line]; k++) {
                if (token != NUMBER) {
                    breakOff();
                    return;
                }
                numbers[k] = tokenNumber();
                places[k] = start;
                advance();
            }
            if (token != SEMICOLON) {
                breakOff();
                return;
            }
            advance();
            check(line, first);
            if (fault == 0) {
                take(line);
            }
        }

        /** FAULT 1 goes ahead of all others, wherever they are. */
        private void breakOff() {
            fault = 1;
            faultPlace = start;
        }

        private void mark(int aFault, int place) {
            if (fault == 0) {
                fault = aFault;
                faultPlace = place;
            }
        }

        private void check(int line, int first) {
            if (isFull(line)) {
                mark(3, first);
            }
            for (int k = 0; k < NUMBERS[line]; k++) {
                if (numbers[k] < leastNumber(line, k) || numbers[k] > GREATEST[MOST_NUMBERS * line + k]) {
                    mark(2, places[k]);
                }
            }
        }

        private boolean isFull(int line) {
            if (line >= NOT) {
                return sight.facts >= MOST_FACTS;
            }
            if (line >= GAVE) {
                return line == GAVE && lesson.pairs >= MOST_PAIRS;
            }
            if (line >= FIRST_ACT) {
                return day.deeds >= MOST_DEEDS;
            }
            if (line >= FOG_LINE) {
                return valley.skies >= MOST_SKIES;
            }
            return line >= FIRST_KIND && valley.people >= MOST_PEOPLE;
        }

        private int leastNumber(int line, int k) {
            if (line == WIDE) {
                return 2;
            }
            if (line == WAIT_LINE) {
                return 1;
            }
            boolean isUpTo = (line == FOG_LINE || line == SNOW_LINE) && k == 1;
            return isUpTo ? numbers[0] : 0;
        }

        private void take(int line) {
            if (line >= NOT) {
                sight.add(line - NOT, numbers[0], numbers[1], numbers[2]);
            } else if (line >= GAVE) {
                takeOfLesson(line);
            } else if (line >= FIRST_ACT) {
                day.add(line - FIRST_ACT, numbers[0], line == WAIT_LINE ? NONE : numbers[1]);
            } else {
                takeOfValley(line);
            }
        }

        private void takeOfLesson(int line) {
            if (line == LIES) {
                lesson.lies = numbers[0];
            } else {
                lesson.add(numbers[0], numbers[1]);
            }
        }

        private void takeOfValley(int line) {
            if (line >= FOG_LINE) {
                valley.addSky(line == FOG_LINE ? FOG : SNOW, numbers[0], numbers[1]);
            } else if (line >= FIRST_KIND) {
                valley.addPerson(line - FIRST_KIND, numbers[0], numbers[1]);
            } else if (line == WIDE) {
                valley.wide = numbers[0];
            } else if (isWord(numbers[0])) {
                takeOfWord(line, numbers[0], numbers[1]);
            }
        }

        private void takeOfWord(int line, int word, int number) {
            if (line == SHOULD) {
                valley.should[word] = number;
            } else if (line == THOUGHT) {
                valley.thought[word] = number;
            } else if (line == WEIGHT) {
                valley.weight[word] = number;
            }
        }

        /** Which line of a sort's texts the token begins; NONE if none. */
        private int lineWord(int sort) {
            if (token != LETTERS) {
                return NONE;
            }
            for (int line = FIRST_OF_SORT[sort]; line < FIRST_OF_SORT[sort + 1]; line++) {
                if (isSpelt(spelling(line))) {
                    return line;
                }
            }
            return NONE;
        }

        private boolean isSpelt(String word) {
            if (behind - start != word.length()) {
                return false;
            }
            for (int k = 0; k < word.length(); k++) {
                if (tape[start + k] != word.charAt(k)) {
                    return false;
                }
            }
            return true;
        }

        private static String spelling(int line) {
            switch (line) {
                case WIDE: return "wide";
                case SHOULD: return "should";
                case THOUGHT: return "thought";
                case WEIGHT: return "weight";
                case FIRST_KIND: return "seller";
                case FIRST_KIND + 1: return "buyer";
                case LAST_KIND: return "preacher";
                case FOG_LINE: return "fog";
                case SNOW_LINE: return "snow";
                case FIRST_ACT: return "whisper";
                case FIRST_ACT + 1: return "say";
                case FIRST_ACT + SHOUT: return "shout";
                case FIRST_ACT + WALK: return "walk";
                case WAIT_LINE: return "wait";
                case GAVE: return "gave";
                case LIES: return "lies";
                case NOT: return "not";
                default: return "heard";
            }
        }

        private int tokenNumber() {
            int number = 0;
            for (int k = start; k < behind; k++) {
                number = 10 * number + (tape[k] - '0');
            }
            return number;
        }

        private void advance() {
            int at = behind;
            while (at < length && isBlank(tape[at])) {
                at++;
            }
            start = at;
            if (at >= length) {
                token = AT_END;
            } else if (isLetter(tape[at])) {
                while (at < length && isLetter(tape[at])) {
                    at++;
                }
                token = LETTERS;
            } else if (isDigit(tape[at])) {
                while (at < length && isDigit(tape[at])) {
                    at++;
                }
                token = at - start <= 2 ? NUMBER : NO_TOKEN;
            } else {
                token = tape[at] == ';' ? SEMICOLON : NO_TOKEN;
                at++;
            }
            behind = at;
        }

        private static boolean isBlank(byte sign) {
            return sign == 10 || sign == 32;
        }

        private static boolean isLetter(byte sign) {
            return sign >= 'a' && sign <= 'z';
        }

        private static boolean isDigit(byte sign) {
            return sign >= '0' && sign <= '9';
        }
    }

    /** A DAY as it goes: where all are, and who has heard what. */
    private static final class Course {
        private static final int[] ACT_OF_DRAW = {0, 1, SHOUT, WALK, WALK, WAIT};

        private int now = 0;
        private int sayings = 0;
        private int x = 0;
        private final int[] places = new int[MOST_PEOPLE];
        /** Of each PERSON and minute: the WORDS heard (bits), and how many hearings. */
        private final int[] words = new int[MOST_PEOPLE * MINUTES];
        private final int[] hearings = new int[MOST_PEOPLE * MINUTES];

        /** Does up to n DEEDS: how many could be done. */
        int follow(Valley valley, Day day, int n) {
            begin(valley);
            int done = 0;
            while (done < n && done < day.deeds
                && perform(valley, day.act[done], day.first[done], day.second[done])) {
                done++;
            }
            return done;
        }

        void draw(Valley valley, int seed, int n) {
            begin(valley);
            x = seed;
            for (int k = 0; k < n; k++) {
                int person = below(valley.people);
                int act = ACT_OF_DRAW[below(ACT_OF_DRAW.length)];
                if (act == WAIT) {
                    perform(valley, WAIT, 1 + below(9), NONE);
                } else {
                    perform(valley, act, person, below(act == WALK ? valley.wide + 1 : WORDS));
                }
            }
        }

        private int below(int n) {
            x = x * 1103515245 + 12345;
            return n > 0 ? (x >>> 16) % n : 0;
        }

        private void begin(Valley valley) {
            now = 0;
            sayings = 0;
            System.arraycopy(valley.place, 0, places, 0, MOST_PEOPLE);
            Arrays.fill(words, 0);
            Arrays.fill(hearings, 0);
        }

        private boolean perform(Valley valley, int act, int first, int second) {
            if (act == WAIT) {
                return pass(first);
            }
            if (!valley.hasPerson(first)) {
                return false;
            }
            if (act == WALK) {
                return walk(valley, first, second);
            }
            speak(valley, first, second, act);
            return true;
        }

        private boolean pass(int minutes) {
            if (now + minutes >= MINUTES) {
                return false;
            }
            now += minutes;
            return true;
        }

        private boolean walk(Valley valley, int person, int to) {
            if (!valley.hasPlace(to) || !pass(Math.abs(places[person] - to))) {
                return false;
            }
            places[person] = to;
            return true;
        }

        private void speak(Valley valley, int person, int word, int loud) {
            sayings++;
            for (int by = VOICE; by <= RIGHT; by++) {
                for (int other = 0; other < valley.people; other++) {
                    if (by == VOICE && other == person) {
                        continue;
                    }
                    int minute = valley.arrival(places[person], word, loud, now, places[other], by);
                    hear(other, minute, valley.wordBy(word, now, by));
                }
            }
        }

        private void hear(int person, int minute, int word) {
            if (!isMinute(minute) || word == NONE) {
                return;
            }
            words[person * MINUTES + minute] |= 1 << word;
            hearings[person * MINUTES + minute]++;
        }

        int tell(Valley valley, int what) {
            switch (what) {
                case 0:
                    return now;
                case 1:
                    return sayings;
                case 2:
                    return clashes(valley);
                case 3:
                case 4:
                    return firstClash(valley, what == 3);
                default:
                    break;
            }
            int person = what % 10;
            return what < 10 || !valley.hasPerson(person) ? REFUSED : tellPerson(what / 10, person);
        }

        private int tellPerson(int column, int person) {
            switch (column) {
                case 1:
                    return places[person];
                case 2:
                    return wordsHeard(person);
                case 3:
                    return howOften(person);
                case 4:
                    return firstHearing(person);
                default:
                    return REFUSED;
            }
        }

        private boolean isClash(int person, int minute) {
            return Integer.bitCount(words[person * MINUTES + minute]) > 1;
        }

        private int clashes(Valley valley) {
            int clashes = 0;
            for (int person = 0; person < valley.people; person++) {
                for (int minute = 0; minute <= now; minute++) {
                    if (isClash(person, minute)) {
                        clashes++;
                    }
                }
            }
            return clashes;
        }

        private int firstClash(Valley valley, boolean whichMinute) {
            for (int minute = 0; minute <= now; minute++) {
                for (int person = 0; person < valley.people; person++) {
                    if (isClash(person, minute)) {
                        return whichMinute ? minute : person;
                    }
                }
            }
            return NONE;
        }

        private int wordsHeard(int person) {
            int bits = 0;
            for (int minute = 0; minute <= now; minute++) {
                bits |= words[person * MINUTES + minute];
            }
            return bits;
        }

        private int howOften(int person) {
            int often = 0;
            for (int minute = 0; minute <= now; minute++) {
                often += hearings[person * MINUTES + minute];
            }
            return often;
        }

        private int firstHearing(int person) {
            for (int minute = 0; minute <= now; minute++) {
                if (hearings[person * MINUTES + minute] > 0) {
                    return minute;
                }
            }
            return NONE;
        }
    }

    /** Which one shout may have been, by a SIGHT in a VALLEY that has all its PLACES. */
    private static final class Search {
        /** By PLACE and minute: of how many that may have been said something is heard there then. */
        private final int[] hits = new int[(MOST_WIDE + 1) * MINUTES];
        /** Of what may have been said at one PLACE and minute: how many WORDS by their THOUGHT. */
        private final int[] byThought = new int[THOUGHTS];
        private int longest = 0;

        /**
         * The WORDS (bits) of which a shout would be heard as FACT k has it. A shout goes further than
         * any way in a VALLEY, so its RANGE is not asked.
         */
        private static int wordsHeardAs(Valley valley, Sight sight, int k, int place, int minute) {
            int bits = 0;
            int after = sight.minute[k] - minute;
            for (int by = VOICE; by <= RIGHT && after >= 0; by++) {
                int still = after - valley.way(place, sight.place[k], by);
                if (still < 0 || valley.isMute(by, minute)) {
                    continue;
                }
                if (by == valley.judge(minute)) {
                    bits |= wordsJudged(valley, sight.word[k], still);
                } else if (still == 0) {
                    bits |= 1 << sight.word[k];
                }
            }
            return bits;
        }

        /** The WORDS (bits) of which the wall that JUDGES gives one, so many minutes later. */
        private static int wordsJudged(Valley valley, int given, int later) {
            int bits = 0;
            for (int word = 0; word < WORDS && later < THOUGHTS; word++) {
                if (valley.should[word] == given && valley.thought[word] == later) {
                    bits |= 1 << word;
                }
            }
            return bits;
        }

        /** The WORDS that may have been said at a PLACE, at a minute (bits). */
        private static int wordsMaybe(Valley valley, Sight sight, int place, int minute) {
            int bits = ALL_WORDS;
            for (int k = 0; k < sight.facts && bits != 0; k++) {
                int heard = wordsHeardAs(valley, sight, k, place, minute);
                bits &= sight.wasHeard[k] == 1 ? heard : ~heard;
            }
            return bits;
        }

        private static int howManyAt(Valley valley, Sight sight, int place) {
            int many = 0;
            for (int minute = 0; minute < MINUTES; minute++) {
                many += Integer.bitCount(wordsMaybe(valley, sight, place, minute));
            }
            return many;
        }

        static int howMany(Valley valley, Sight sight) {
            int many = 0;
            for (int place = 0; place <= valley.wide; place++) {
                many += howManyAt(valley, sight, place);
            }
            return many;
        }

        static int numbered(Valley valley, Sight sight, int k) {
            int left = k;
            for (int place = 0; place <= valley.wide && left >= 0; place++) {
                for (int minute = 0; minute < MINUTES; minute++) {
                    int bits = wordsMaybe(valley, sight, place, minute);
                    int many = Integer.bitCount(bits);
                    if (left < many) {
                        return 1000 * place + 10 * minute + wordNumbered(bits, left);
                    }
                    left -= many;
                }
            }
            return NONE;
        }

        private static int wordNumbered(int bits, int k) {
            int left = k;
            for (int word = 0; word < WORDS; word++) {
                if ((bits >> word & 1) == 0) {
                    continue;
                }
                if (left == 0) {
                    return word;
                }
                left--;
            }
            return NONE;
        }

        static int onlyPlace(Valley valley, Sight sight) {
            int only = NONE;
            for (int place = 0; place <= valley.wide; place++) {
                if (howManyAt(valley, sight, place) == 0) {
                    continue;
                }
                if (only != NONE) {
                    return NONE;
                }
                only = place;
            }
            return only;
        }

        int whereToListen(Valley valley, Sight sight) {
            Arrays.fill(hits, 0);
            int all = 0;
            for (int place = 0; place <= valley.wide; place++) {
                for (int minute = 0; minute < MINUTES; minute++) {
                    int bits = wordsMaybe(valley, sight, place, minute);
                    all += Integer.bitCount(bits);
                    hitByWords(valley, place, minute, bits);
                }
            }
            int best = NONE;
            int least = all;
            for (int at = 0; at < (valley.wide + 1) * MINUTES && all > 0; at++) {
                int greater = Math.max(hits[at], all - hits[at]);
                if (best == NONE || greater < least) {
                    least = greater;
                    best = at;
                }
            }
            return best;
        }

        /** VOICE and echo are alike for all WORDS, so all that may be said there and then go together. */
        private void hitByWords(Valley valley, int place, int minute, int bits) {
            int many = Integer.bitCount(bits);
            int judge = valley.judge(minute);
            int echo = judge == LEFT ? RIGHT : LEFT;
            boolean noEcho = valley.isMute(echo, minute);
            boolean noJudge = valley.isMute(judge, minute);
            countByThought(valley, bits);
            for (int to = 0; to <= valley.wide && many > 0; to++) {
                int voice = minute + valley.way(place, to, VOICE);
                int echoed = noEcho ? NONE : minute + valley.way(place, to, echo);
                hit(to, voice, many);
                if (echoed != voice) {
                    hit(to, echoed, many);
                }
                if (!noJudge) {
                    hitByJudge(to, minute + valley.way(place, to, judge), voice, echoed);
                }
            }
        }

        private void countByThought(Valley valley, int bits) {
            Arrays.fill(byThought, 0);
            longest = 0;
            for (int word = 0; word < WORDS; word++) {
                if ((bits >> word & 1) != 0) {
                    byThought[valley.thought[word]]++;
                    longest = Math.max(longest, valley.thought[word]);
                }
            }
        }

        /** What is heard there then by another way already counts once alone. */
        private void hitByJudge(int to, int soonest, int voice, int echoed) {
            for (int later = 0; later <= longest; later++) {
                int minute = soonest + later;
                if (minute != voice && minute != echoed) {
                    hit(to, minute, byThought[later]);
                }
            }
        }

        private void hit(int place, int minute, int many) {
            if (isMinute(minute)) {
                hits[place * MINUTES + minute] += many;
            }
        }
    }

    /** SELLERS and BUYERS. */
    private static final class Trade {
        private final int[] bestOfSeller = new int[PRICES];
        private final int[] bestOfBuyer = new int[PRICES];

        /** The gain of the next couple that trades, behind those before it; NONE if no further one does. */
        private static int gainOfCouple(Valley valley, int before) {
            int sellers = 0;
            int buyers = 0;
            int seller = NONE;
            int buyer = NONE;
            for (int k = 0; k <= before; k++) {
                seller = bestLeft(valley, SELLER, sellers);
                buyer = bestLeft(valley, BUYER, buyers);
                if (seller == NONE || buyer == NONE) {
                    return NONE;
                }
                sellers |= 1 << seller;
                buyers |= 1 << buyer;
            }
            if (seller == NONE || buyer == NONE || valley.wish[buyer] < valley.wish[seller]) {
                return NONE;
            }
            return valley.wish[buyer] - valley.wish[seller];
        }

        /** The SELLER of the least WISH, or the BUYER of the greatest, that is not among some. */
        private static int bestLeft(Valley valley, int kind, int gone) {
            int best = NONE;
            for (int person = 0; person < valley.people; person++) {
                if (!valley.isOfKind(person, kind) || (gone >> person & 1) != 0) {
                    continue;
                }
                if (best == NONE || isKeener(kind, valley.wish[person], valley.wish[best])) {
                    best = person;
                }
            }
            return best;
        }

        private static boolean isKeener(int kind, int wish, int than) {
            return kind == SELLER ? wish < than : wish > than;
        }

        static int gain(Valley valley) {
            int gain = 0;
            int couples = couples(valley);
            for (int k = 0; k < couples; k++) {
                gain += gainOfCouple(valley, k);
            }
            return gain;
        }

        /** Those who gain nothing together trade too: the most couples are asked for. */
        static int couples(Valley valley) {
            int couples = 0;
            while (couples < MOST_PEOPLE && gainOfCouple(valley, couples) != NONE) {
                couples++;
            }
            return couples;
        }

        static int leastPrice(Valley valley) {
            for (int price = 0; price < PRICES; price++) {
                if (isFair(valley, price)) {
                    return price;
                }
            }
            return NONE;
        }

        static int greatestPrice(Valley valley) {
            for (int price = PRICES - 1; price >= 0; price--) {
                if (isFair(valley, price)) {
                    return price;
                }
            }
            return NONE;
        }

        /** Who is glad of either may do either, so those who must trade are to find those who may. */
        private static boolean isFair(Valley valley, int price) {
            int mustSell = 0;
            int maySell = 0;
            int mustBuy = 0;
            int mayBuy = 0;
            for (int person = 0; person < valley.people; person++) {
                int wish = valley.wish[person];
                if (valley.kind[person] == SELLER) {
                    mustSell += wish < price ? 1 : 0;
                    maySell += wish <= price ? 1 : 0;
                } else if (valley.kind[person] == BUYER) {
                    mustBuy += wish > price ? 1 : 0;
                    mayBuy += wish >= price ? 1 : 0;
                }
            }
            return mustSell <= mayBuy && mustBuy <= maySell;
        }

        /** RESTS of a bargain, or those of them in which the two trade. */
        int rests(int sellerWish, int buyerWish, boolean traded) {
            findBest(sellerWish, buyerWish);
            int rests = 0;
            for (int asked = 0; asked < PRICES; asked++) {
                for (int bid = traded ? asked : 0; bid < PRICES; bid++) {
                    if (sellerGain(asked, bid, sellerWish) == bestOfSeller[bid]
                        && buyerGain(asked, bid, buyerWish) == bestOfBuyer[asked]) {
                        rests++;
                    }
                }
            }
            return rests;
        }

        private void findBest(int sellerWish, int buyerWish) {
            for (int call = 0; call < PRICES; call++) {
                int ofSeller = sellerGain(0, call, sellerWish);
                int ofBuyer = buyerGain(call, 0, buyerWish);
                for (int other = 1; other < PRICES; other++) {
                    ofSeller = Math.max(ofSeller, sellerGain(other, call, sellerWish));
                    ofBuyer = Math.max(ofBuyer, buyerGain(call, other, buyerWish));
                }
                bestOfSeller[call] = ofSeller;
                bestOfBuyer[call] = ofBuyer;
            }
        }

        private static int sellerGain(int asked, int bid, int wish) {
            return bid >= asked ? (asked + bid) / 2 - wish : 0;
        }

        private static int buyerGain(int asked, int bid, int wish) {
            return bid >= asked ? wish - (asked + bid) / 2 : 0;
        }

        static int greatestBuyer(Valley valley, int but) {
            return bestLeft(valley, BUYER, but == NONE ? 0 : 1 << but);
        }

        static int priceFor(Valley valley, int seller, int winner) {
            int rival = greatestBuyer(valley, winner);
            return rival == NONE ? valley.wish[seller] : Math.max(valley.wish[seller], valley.wish[rival]);
        }
    }

    /** Who hears whom from where. */
    private static final class Company {
        final int[] reached = new int[MOST_PEOPLE];
        final int[] partner = new int[MOST_PEOPLE];
        private final int[] asked = new int[MOST_PEOPLE];

        private static boolean isSilent(Valley valley, int from, int people, int loud, int minute) {
            for (int person = 0; person < valley.people; person++) {
                if ((people >> person & 1) == 0) {
                    continue;
                }
                for (int by = VOICE; by <= RIGHT; by++) {
                    if (valley.carries(from, loud, minute, valley.place[person], by)) {
                        return false;
                    }
                }
            }
            return true;
        }

        static int silentPlaces(Valley valley, int people, int loud, int minute) {
            int many = 0;
            for (int place = 0; place <= valley.wide; place++) {
                if (isSilent(valley, place, people, loud, minute)) {
                    many++;
                }
            }
            return many;
        }

        static int leastSilent(Valley valley, int people, int loud, int minute) {
            for (int place = 0; place <= valley.wide; place++) {
                if (isSilent(valley, place, people, loud, minute)) {
                    return place;
                }
            }
            return NONE;
        }

        static int judgedHearers(Valley valley, int from, int loud, int minute) {
            int many = 0;
            int judge = valley.judge(minute);
            for (int person = 0; person < valley.people; person++) {
                if (valley.carries(from, loud, minute, valley.place[person], judge)) {
                    many++;
                }
            }
            return many;
        }

        static int fullestPlace(Valley valley, int loud, int minute) {
            int best = 0;
            int most = judgedHearers(valley, 0, loud, minute);
            for (int place = 1; place <= valley.wide; place++) {
                int many = judgedHearers(valley, place, loud, minute);
                if (many > most) {
                    most = many;
                    best = place;
                }
            }
            return best;
        }

        private static int apart(Valley valley, int person, int other) {
            return Math.abs(valley.place[person] - valley.place[other]);
        }

        /** When a WORD that all say on comes to each, or (steps) by how many sayings; NONE: never. */
        void reach(Valley valley, int from, int loud, boolean steps) {
            Arrays.fill(reached, NONE);
            reached[from] = 0;
            for (int round = 1; round < valley.people; round++) {
                for (int person = 0; person < valley.people; person++) {
                    if (reached[person] != NONE) {
                        sayOn(valley, person, loud, steps);
                    }
                }
            }
        }

        private void sayOn(Valley valley, int person, int loud, boolean steps) {
            for (int other = 0; other < valley.people; other++) {
                int way = apart(valley, person, other);
                if (way > RANGE[loud]) {
                    continue;
                }
                int then = reached[person] + (steps ? 1 : way);
                if (reached[other] == NONE || then < reached[other]) {
                    reached[other] = then;
                }
            }
        }

        int howManyReached() {
            int many = 0;
            for (int person = 0; person < MOST_PEOPLE; person++) {
                if (reached[person] != NONE) {
                    many++;
                }
            }
            return many;
        }

        int lastReached() {
            int last = 0;
            for (int person = 0; person < MOST_PEOPLE; person++) {
                last = Math.max(last, reached[person]);
            }
            return last;
        }

        static int fewestGuards(Valley valley, int loud) {
            int best = NONE;
            int fewest = MOST_PEOPLE + 1;
            for (int people = 0; people < 1 << valley.people; people++) {
                int many = Integer.bitCount(people);
                if (many < fewest && areGuards(valley, people, loud)) {
                    fewest = many;
                    best = people;
                }
            }
            return best;
        }

        private static boolean areGuards(Valley valley, int people, int loud) {
            for (int place = 0; place <= valley.wide; place++) {
                if (!isGuarded(valley, place, people, loud)) {
                    return false;
                }
            }
            return true;
        }

        private static boolean isGuarded(Valley valley, int place, int people, int loud) {
            for (int person = 0; person < valley.people; person++) {
                if ((people >> person & 1) != 0
                    && valley.way(place, valley.place[person], VOICE) <= RANGE[loud]) {
                    return true;
                }
            }
            return false;
        }

        static int nearestPlace(Valley valley, boolean toFurthest) {
            int best = 0;
            for (int place = 1; place <= valley.wide; place++) {
                if (farness(valley, place, toFurthest) < farness(valley, best, toFurthest)) {
                    best = place;
                }
            }
            return best;
        }

        /** How far it is from a PLACE to all PEOPLE together, or to the furthest of them. */
        static int farness(Valley valley, int place, boolean toFurthest) {
            int together = 0;
            int furthest = 0;
            for (int person = 0; person < valley.people; person++) {
                int way = valley.way(place, valley.place[person], VOICE);
                together += way;
                furthest = Math.max(furthest, way);
            }
            return toFurthest ? furthest : together;
        }

        /** Each round one SELLER asks one BUYER whom he has not asked: no round is above their product. */
        void match(Valley valley) {
            Arrays.fill(partner, NONE);
            Arrays.fill(asked, 0);
            for (int round = 0; round < MOST_PEOPLE * MOST_PEOPLE; round++) {
                int seller = nextAsker(valley);
                if (seller == NONE) {
                    return;
                }
                ask(valley, seller, nearestUnasked(valley, seller));
            }
        }

        private int nextAsker(Valley valley) {
            for (int person = 0; person < valley.people; person++) {
                if (valley.kind[person] == SELLER && partner[person] == NONE
                    && nearestUnasked(valley, person) != NONE) {
                    return person;
                }
            }
            return NONE;
        }

        private int nearestUnasked(Valley valley, int seller) {
            int nearest = NONE;
            for (int person = 0; person < valley.people; person++) {
                if (valley.kind[person] != BUYER || (asked[seller] >> person & 1) != 0) {
                    continue;
                }
                if (nearest == NONE || isNearer(valley, person, nearest, seller)) {
                    nearest = person;
                }
            }
            return nearest;
        }

        private void ask(Valley valley, int seller, int buyer) {
            if (buyer == NONE) {
                return;
            }
            asked[seller] |= 1 << buyer;
            int rival = partner[buyer];
            if (rival != NONE && !isNearer(valley, seller, rival, buyer)) {
                return;
            }
            if (rival != NONE) {
                partner[rival] = NONE;
            }
            partner[buyer] = seller;
            partner[seller] = buyer;
        }

        private static boolean isNearer(Valley valley, int person, int than, int to) {
            int way = apart(valley, person, to);
            int wayOfOther = apart(valley, than, to);
            return way < wayOfOther || way == wayOfOther && person < than;
        }
    }

    /** What a VALLEY's WORDS tell by themselves. */
    private static final class Words {
        static final int FLATTEST_TREE = 3;
        /** Eight WORDS never gain by a tree that is deeper than this one. */
        static final int DEEPEST_TREE = 7;
        private static final int NO_TREE = 1000000;

        static int sayingsUntil(Valley valley, int from, int to) {
            int word = from;
            for (int sayings = 1; sayings <= WORDS; sayings++) {
                word = valley.should[word];
                if (word == to) {
                    return sayings;
                }
            }
            return NONE;
        }

        static int ringCount(Valley valley) {
            int rings = 0;
            for (int word = 0; word < WORDS; word++) {
                if (isLeastOfRing(valley, word)) {
                    rings++;
                }
            }
            return rings;
        }

        private static boolean isLeastOfRing(Valley valley, int word) {
            int length = sayingsUntil(valley, word, word);
            int other = word;
            for (int k = 0; k < length; k++) {
                other = valley.should[other];
                if (other < word) {
                    return false;
                }
            }
            return length != NONE;
        }

        static int longestRing(Valley valley) {
            int longest = 0;
            for (int word = 0; word < WORDS; word++) {
                longest = Math.max(longest, sayingsUntil(valley, word, word));
            }
            return longest;
        }

        static int wordsInRings(Valley valley) {
            int bits = 0;
            for (int word = 0; word < WORDS; word++) {
                if (sayingsUntil(valley, word, word) != NONE) {
                    bits |= 1 << word;
                }
            }
            return bits;
        }

        static int fewestAnswers(Valley valley, int deepest) {
            int[] heaviestFirst = valley.weight.clone();
            for (int k = 1; k < WORDS; k++) {
                for (int at = k; at > 0 && heaviestFirst[at] > heaviestFirst[at - 1]; at--) {
                    int lighter = heaviestFirst[at - 1];
                    heaviestFirst[at - 1] = heaviestFirst[at];
                    heaviestFirst[at] = lighter;
                }
            }
            return fewestBelow(heaviestFirst, 0, 1, deepest);
        }

        /**
         * The fewest answers still to come for the WORDS that are not placed, with so many branches
         * open at this depth: the heaviest end here, all others take an answer more.
         */
        private static int fewestBelow(int[] heaviestFirst, int placed, int open, int levels) {
            if (WORDS - placed <= open) {
                return 0;
            }
            if (levels <= 0) {
                return NO_TREE;
            }
            int fewest = NO_TREE;
            for (int ending = 0; ending < open; ending++) {
                int below = fewestBelow(heaviestFirst, placed + ending, 2 * (open - ending), levels - 1);
                fewest = Math.min(fewest, below + weightFrom(heaviestFirst, placed + ending));
            }
            return fewest;
        }

        private static int weightFrom(int[] heaviestFirst, int first) {
            int weight = 0;
            for (int k = first; k < WORDS; k++) {
                weight += heaviestFirst[k];
            }
            return weight;
        }

        static long weightOfAll(Valley valley) {
            long weight = 0;
            for (int word = 0; word < WORDS; word++) {
                weight += valley.weight[word];
            }
            return weight;
        }

        static long weightOfSelfSame(Valley valley) {
            long weight = 0;
            for (int word = 0; word < WORDS; word++) {
                weight += valley.should[word] == word ? valley.weight[word] : 0;
            }
            return weight;
        }

        /** Euclid's way; numbers of this size need far fewer steps than the bound. */
        static long commonDivisor(long one, long other) {
            long a = one;
            long b = other;
            for (int step = 0; step < 100 && b != 0; step++) {
                long rest = a % b;
                a = b;
                b = rest;
            }
            return a;
        }

        static long power(long base, int n) {
            long power = 1;
            for (int k = 0; k < n; k++) {
                power *= base;
            }
            return power;
        }
    }
}
