import java.util.ArrayList;
import java.util.HashSet;
import java.util.List;
import java.util.PriorityQueue;
import java.util.Random;
import java.util.Set;
import java.util.function.IntUnaryOperator;

/** Random VALLEYS, DAYS, SEEDS and LESSONS, each answer found a second time in another, slower way. */
public final class SlowTest {
    private static final int[] RANGE = {6, 18, 99};
    private static final String[] KIND = {"seller", "buyer", "preacher"};
    private static final String[] ACT = {"whisper", "say", "shout", "walk"};

    private final Random random;
    private final TwoEchoes x = new TwoEchoes();
    private final int wide;
    private final int[] should = new int[8];
    private final int[] thought = new int[8];
    private final int[] weight = new int[8];
    private final List<int[]> people = new ArrayList<>();
    private final boolean[] fog = new boolean[100];
    private final boolean[] snow = new boolean[100];

    public static void main(String[] args) {
        for (int seed = 0; seed < 700; seed++) {
            SlowTest test = new SlowTest(seed);
            test.days();
            test.draws();
            test.skies();
            test.markets();
            test.auctions();
            test.talks();
            test.words();
            test.places();
            test.middles();
            test.matches();
            test.lessons();
        }
        Check.end("SlowTest");
    }

    private SlowTest(int seed) {
        random = new Random(seed);
        wide = 2 + random.nextInt(29);
        StringBuilder text = new StringBuilder("wide " + wide + ";");
        int greatest = random.nextBoolean() ? 100 : 8;
        for (int word = 0; word < 8; word++) {
            should[word] = random.nextInt(3) > 0 ? random.nextInt(8) : word;
            thought[word] = random.nextInt(10);
            weight[word] = random.nextInt(greatest);
            text.append("should ").append(word).append(' ').append(should[word]).append(";thought ").append(word);
            text.append(' ').append(thought[word]).append(";weight ").append(word).append(' ').append(weight[word]).append(';');
        }
        for (int k = random.nextInt(7); k > 0; k--) {
            int[] person = {random.nextInt(5) / 2, random.nextInt(wide + 1), random.nextInt(greatest)};
            people.add(person);
            text.append(KIND[person[0]]).append(' ').append(person[1]).append(' ').append(person[2]).append(';');
        }
        for (int k = random.nextInt(5); k > 0; k--) {
            int from = random.nextInt(100);
            int upTo = Math.min(99, from + random.nextInt(40));
            boolean isFog = random.nextBoolean();
            for (int minute = from; minute <= upTo; minute++) {
                (isFog ? fog : snow)[minute] = true;
            }
            text.append(isFog ? "fog " : "snow ").append(from).append(' ').append(upTo).append(';');
        }
        Check.due("text of " + text, Check.tell(x, 0, text.toString()), 0);
    }

    /** A hearing: who, when, what. */
    private void shoutAbout(List<int[]> heard, int[] at, int person, int word, int loud, int now) {
        for (int other = 0; other < people.size(); other++) {
            int voice = Math.abs(at[person] - at[other]);
            int left = at[person] + at[other];
            int right = wide - at[person] + wide - at[other];
            int leftWait = fog[now] ? thought[word] : 0;
            int rightWait = fog[now] ? 0 : thought[word];
            if (other != person && voice <= RANGE[loud]) {
                heard.add(new int[] {other, now + voice, word});
            }
            if (!snow[now] && left <= RANGE[loud]) {
                heard.add(new int[] {other, now + left + leftWait, fog[now] ? should[word] : word});
            }
            if (right <= RANGE[loud]) {
                heard.add(new int[] {other, now + right + rightWait, fog[now] ? word : should[word]});
            }
        }
    }

    private void days() {
        int many = random.nextInt(41);
        int[][] deeds = new int[many][];
        StringBuilder text = new StringBuilder();
        for (int k = 0; k < many; k++) {
            int act = random.nextInt(6);
            if (act > 3) {
                deeds[k] = new int[] {4, 1 + random.nextInt(random.nextInt(9) == 0 ? 60 : 5), -1};
                text.append("wait ").append(deeds[k][1]).append(';');
            } else {
                int person = random.nextInt(30) == 0 ? random.nextInt(6) : random.nextInt(Math.max(1, people.size()));
                int number = act < 3 ? random.nextInt(8) : random.nextInt(random.nextInt(30) == 0 ? 31 : wide + 1);
                deeds[k] = new int[] {act, person, number};
                text.append(ACT[act]).append(' ').append(person).append(' ').append(number).append(';');
            }
        }
        if (text.length() > 600) {
            return;
        }
        Check.due("DAY", Check.tell(x, 1, text.toString()), 0);
        int[] at = people.stream().mapToInt(p -> p[1]).toArray();
        List<int[]> heard = new ArrayList<>();
        int now = 0;
        int sayings = 0;
        int n = 0;
        compareState(n, now, sayings, at, heard);
        for (; n < many; n++) {
            int[] deed = deeds[n];
            if (deed[0] < 4 && deed[1] >= people.size() || deed[0] == 3 && deed[2] > wide) {
                break;
            }
            int takes = deed[0] == 4 ? deed[1] : deed[0] == 3 ? Math.abs(at[deed[1]] - deed[2]) : 0;
            if (now + takes > 99) {
                break;
            }
            now += takes;
            if (deed[0] == 3) {
                at[deed[1]] = deed[2];
            } else if (deed[0] < 3) {
                sayings++;
                shoutAbout(heard, at, deed[1], deed[2], deed[0], now);
            }
            if (n % 7 == 3 || n > many - 4) {
                compareState(n + 1, now, sayings, at, heard);
            }
        }
        Check.due("STOP", x.stop(0, 0), n);
        compareState(n, now, sayings, at, heard);
        Check.due("beyond STOP", x.state(0, 0, n + 1, 0), -2);
    }

    private void compareState(int n, int now, int sayings, int[] at, List<int[]> heard) {
        compare(what -> x.state(0, 0, n, what), now, sayings, at, heard);
    }

    private void compare(IntUnaryOperator state, int now, int sayings, int[] at, List<int[]> heard) {
        int[] bits = new int[6];
        int[] often = new int[6];
        int[] first = {-1, -1, -1, -1, -1, -1};
        Set<Integer> clashes = new HashSet<>();
        for (int[] one : heard) {
            if (one[1] > now) {
                continue;
            }
            bits[one[0]] |= 1 << one[2];
            often[one[0]]++;
            first[one[0]] = first[one[0]] < 0 ? one[1] : Math.min(first[one[0]], one[1]);
            for (int[] other : heard) {
                if (other[0] == one[0] && other[1] == one[1] && other[2] != one[2]) {
                    clashes.add(10 * one[1] + one[0]);
                }
            }
        }
        int least = clashes.stream().mapToInt(c -> c).min().orElse(-1);
        Check.due("NOW", state.applyAsInt(0), now);
        Check.due("sayings", state.applyAsInt(1), sayings);
        Check.due("CLASHES", state.applyAsInt(2), clashes.size());
        Check.due("first CLASH", state.applyAsInt(3), least < 0 ? -1 : least / 10);
        Check.due("first who clashes", state.applyAsInt(4), least < 0 ? -1 : least % 10);
        for (int person = 0; person < 6; person++) {
            boolean isThere = person < people.size();
            Check.due("PLACE", state.applyAsInt(10 + person), isThere ? at[person] : -2);
            Check.due("WORDS", state.applyAsInt(20 + person), isThere ? bits[person] : -2);
            Check.due("how often", state.applyAsInt(30 + person), isThere ? often[person] : -2);
            Check.due("first", state.applyAsInt(40 + person), isThere ? first[person] : -2);
        }
    }

    /** The same numbers drawn here, of 32 bits within a long; a DEED that can't be is passed over. */
    private void draws() {
        int seed = random.nextInt();
        int n = random.nextInt(61);
        if (people.isEmpty()) {
            Check.due("DRAWN without PEOPLE", x.drawn(0, seed, n, 0), -2);
            return;
        }
        long[] bits = {seed};
        int[] at = people.stream().mapToInt(p -> p[1]).toArray();
        List<int[]> heard = new ArrayList<>();
        int now = 0;
        int sayings = 0;
        for (int k = 0; k < n; k++) {
            int person = below(bits, people.size());
            int act = below(bits, 6);
            int number = below(bits, act < 3 ? 8 : act < 5 ? wide + 1 : 9);
            int takes = act < 3 ? 0 : act < 5 ? Math.abs(at[person] - number) : 1 + number;
            if (now + takes > 99) {
                continue;
            }
            now += takes;
            if (act < 3) {
                sayings++;
                shoutAbout(heard, at, person, number, act, now);
            } else if (act < 5) {
                at[person] = number;
            }
        }
        compare(what -> x.drawn(0, seed, n, what), now, sayings, at, heard);
    }

    private static int below(long[] bits, int n) {
        bits[0] = (bits[0] * 1103515245L + 12345L) & 0xffffffffL;
        return (int) (bits[0] / 65536 % n);
    }

    /** WEATHER, what the walls give, when it is heard, LATE. */
    private void skies() {
        StringBuilder clear = new StringBuilder();
        for (int minute = 0; minute < 100; minute++) {
            int due = (fog[minute] ? 1 : 0) + (snow[minute] ? 2 : 0);
            clear.append(due == 0 ? '.' : ' ');
            Check.due("WEATHER", x.weather(0, minute), due);
            int word = random.nextInt(8);
            int right = fog[minute] ? word : should[word];
            int left = snow[minute] ? -1 : fog[minute] ? should[word] : word;
            Check.due("LEFT gives", x.gives(0, word, minute, 1), left);
            Check.due("RIGHT gives", x.gives(0, word, minute, 2), right);
            int from = random.nextInt(wide + 1);
            int to = random.nextInt(wide + 1);
            int loud = random.nextInt(3);
            int[] way = {Math.max(from, to) - Math.min(from, to), from + to, wide - from + wide - to};
            int[] thinks = {0, fog[minute] ? thought[word] : 0, fog[minute] ? 0 : thought[word]};
            for (int by = 0; by < 3; by++) {
                boolean isHeard = way[by] <= RANGE[loud] && !(by == 1 && snow[minute]);
                Check.due("heard", x.heard(0, from, word, loud, minute, to, by),
                    isHeard ? minute + way[by] + thinks[by] : -1);
            }
            Check.due("LATE", x.late(0, from, word), wide - from + thought[word] + wide - from);
        }
        int longest = 0;
        for (String run : clear.toString().split(" ")) {
            longest = Math.max(longest, run.length());
        }
        Check.due("CLEAR", x.weather(0, -1), longest);
    }

    private void middles() {
        int[] sums = new int[wide + 1];
        int[] furthest = new int[wide + 1];
        for (int place = 0; place <= wide; place++) {
            for (int[] person : people) {
                sums[place] += Math.abs(person[1] - place);
                furthest[place] = Math.max(furthest[place], Math.abs(person[1] - place));
            }
        }
        Check.due("MIDDLE", x.middle(0, 0), indexOfLeast(sums));
        Check.due("MIDDLE, together", x.middle(0, 1), sums[indexOfLeast(sums)]);
        Check.due("CENTRE", x.middle(0, 2), indexOfLeast(furthest));
        Check.due("CENTRE, how far", x.middle(0, 3), furthest[indexOfLeast(furthest)]);
    }

    private static int indexOfLeast(int[] row) {
        int least = java.util.Arrays.stream(row).min().orElse(-1);
        int first = 0;
        while (row[first] != least) {
            first++;
        }
        return first;
    }

    /** Bids in order, the greatest first: the second one, or the SELLER's WISH, is the price. */
    private void auctions() {
        List<int[]> bids = new ArrayList<>();
        for (int p = 0; p < people.size(); p++) {
            if (people.get(p)[0] == 1) {
                bids.add(new int[] {people.get(p)[2], p});
            }
        }
        bids.sort((a, b) -> a[0] != b[0] ? b[0] - a[0] : a[1] - b[1]);
        for (int p = 0; p < people.size(); p++) {
            int wish = people.get(p)[2];
            boolean isSold = people.get(p)[0] == 0 && !bids.isEmpty() && bids.get(0)[0] >= wish;
            int price = bids.size() > 1 ? Math.max(wish, bids.get(1)[0]) : wish;
            Check.due("AUCTION, who", x.auction(0, p, false), isSold ? bids.get(0)[1] : -1);
            Check.due("AUCTION, for how much", x.auction(0, p, true), isSold ? price : -1);
        }
    }

    /** All sets of SELLERS and BUYERS of one size, and all PRICES with all who may trade either way. */
    private void markets() {
        int gain = 0;
        int couples = 0;
        for (int set = 0; set < 1 << people.size(); set++) {
            int[] of = sold(set);
            if (of[0] != of[1] || of[3] > 0) {
                continue;
            }
            if (of[2] > gain || of[2] == gain && of[0] > couples) {
                gain = of[2];
                couples = of[0];
            }
        }
        Check.due("gain", x.market(0, 0), gain);
        Check.due("couples", x.market(0, 1), couples);
        int least = -1;
        int greatest = -1;
        for (int price = 0; price < 100; price++) {
            for (int set = 0; set < 1 << people.size(); set++) {
                int[] of = sold(set);
                if (of[0] == of[1] && of[3] == 0 && allGlad(set, price)) {
                    least = least < 0 ? price : least;
                    greatest = price;
                }
            }
        }
        Check.due("least PRICE", x.market(0, 2), least);
        Check.due("greatest PRICE", x.market(0, 3), greatest);
    }

    /** Of some PEOPLE: SELLERS, BUYERS, their gain, PREACHERS. */
    private int[] sold(int set) {
        int[] of = new int[4];
        for (int p = 0; p < people.size(); p++) {
            if ((set >> p & 1) != 0) {
                int[] person = people.get(p);
                of[person[0] == 2 ? 3 : person[0]]++;
                of[2] += person[0] == 0 ? -person[2] : person[0] == 1 ? person[2] : 0;
            }
        }
        return of;
    }

    private boolean allGlad(int set, int price) {
        for (int p = 0; p < people.size(); p++) {
            int[] person = people.get(p);
            boolean trades = (set >> p & 1) != 0;
            int gain = person[0] == 0 ? price - person[2] : person[0] == 1 ? person[2] - price : 0;
            if (trades && gain < 0 || !trades && gain > 0) {
                return false;
            }
        }
        return true;
    }

    private void talks() {
        PriorityQueue<Integer> queue = new PriorityQueue<>();
        for (int w : weight) {
            queue.add(w);
        }
        int answers = 0;
        while (queue.size() > 1) {
            int both = queue.remove() + queue.remove();
            answers += both;
            queue.add(both);
        }
        Check.due("TALK", x.talk(0, -1), answers);
        for (int n = 3; n <= 7; n++) {
            Check.due("TREE of " + n, x.talk(0, n), packages(n));
        }
    }

    /** Coins of each size 1/2 .. 1/2^n for each WORD, packed two and two: the fourteen lightest of size 1/2 tell. */
    private int packages(int n) {
        List<Integer> row = new ArrayList<>();
        for (int level = 0; level < n; level++) {
            List<Integer> next = new ArrayList<>();
            for (int k = 0; k + 1 < row.size(); k += 2) {
                next.add(row.get(k) + row.get(k + 1));
            }
            for (int w : weight) {
                next.add(w);
            }
            next.sort(null);
            row = next;
        }
        return row.subList(0, 14).stream().mapToInt(c -> c).sum();
    }

    private void words() {
        Set<Set<Integer>> rings = new HashSet<>();
        for (int word = 0; word < 8; word++) {
            int at = word;
            for (int k = 0; k < 8; k++) {
                at = should[at];
            }
            Set<Integer> ring = new HashSet<>();
            while (ring.add(at)) {
                at = should[at];
            }
            rings.add(ring);
        }
        int bits = 0;
        for (Set<Integer> ring : rings) {
            for (int word : ring) {
                bits |= 1 << word;
            }
        }
        Check.due("rings", x.rings(0, 0), rings.size());
        Check.due("longest", x.rings(0, 1), rings.stream().mapToInt(Set::size).max().orElse(0));
        Check.due("WORDS in rings", x.rings(0, 2), bits);
        for (int from = 0; from < 8; from++) {
            for (int to = 0; to < 8; to++) {
                int at = should[from];
                int sayings = 1;
                while (at != to && sayings < 20) {
                    at = should[at];
                    sayings++;
                }
                Check.due("CHAIN", x.chain(0, from, to), at == to ? sayings : -1);
            }
        }
        java.math.BigInteger own = java.math.BigInteger.ZERO;
        java.math.BigInteger all = java.math.BigInteger.ZERO;
        for (int word = 0; word < 8; word++) {
            java.math.BigInteger w = java.math.BigInteger.valueOf(weight[word]);
            all = all.add(w);
            own = should[word] == word ? own.add(w) : own;
        }
        for (int n = 0; n <= 6; n++) {
            boolean none = all.signum() == 0;
            java.math.BigInteger over = own.pow(n);
            java.math.BigInteger under = all.pow(n);
            java.math.BigInteger shared = over.gcd(under);
            Check.due("UNSURE", x.unsure(0, n, false), none ? -1 : over.divide(shared).longValueExact());
            Check.due("UNSURE, under", x.unsure(0, n, true), none ? -1 : under.divide(shared).longValueExact());
        }
    }

    private int at(int person) {
        return people.get(person)[1];
    }

    private void places() {
        int minute = random.nextInt(100);
        for (int loud = 0; loud < 3; loud++) {
            hushes(loud, minute);
            crowds(loud, minute);
            for (int from = 0; from < people.size(); from++) {
                news(from, loud);
            }
        }
    }

    private boolean hears(int person, int place, int loud, int minute, int by) {
        return x.heard(0, place, 0, loud, minute, at(person), by) != -1;
    }

    private void hushes(int loud, int minute) {
        int bits = random.nextInt(1 << people.size());
        int many = 0;
        int least = -1;
        int guards = -1;
        for (int place = wide; place >= 0; place--) {
            boolean silent = true;
            for (int person = 0; person < people.size(); person++) {
                for (int by = 0; by < 3; by++) {
                    silent &= (bits >> person & 1) == 0 || !hears(person, place, loud, minute, by);
                }
            }
            many += silent ? 1 : 0;
            least = silent ? place : least;
        }
        Check.due("HUSH", x.hush(0, bits, loud, minute, false), many);
        Check.due("HUSH, the least", x.hush(0, bits, loud, minute, true), least);
        for (int set = (1 << people.size()) - 1; set >= 0; set--) {
            boolean all = true;
            for (int place = 0; place <= wide; place++) {
                boolean one = false;
                for (int person = 0; person < people.size(); person++) {
                    one |= (set >> person & 1) != 0 && hears(person, place, loud, minute, 0);
                }
                all &= one;
            }
            if (all && (guards < 0 || Integer.bitCount(set) <= Integer.bitCount(guards))) {
                guards = set;
            }
        }
        Check.due("GUARDS", x.guards(0, loud), guards);
    }

    private void crowds(int loud, int minute) {
        int most = -1;
        int best = -1;
        for (int place = 0; place <= wide; place++) {
            int many = 0;
            for (int person = 0; person < people.size(); person++) {
                many += hears(person, place, loud, minute, fog[minute] ? 1 : 2) ? 1 : 0;
            }
            if (many > most) {
                most = many;
                best = place;
            }
        }
        Check.due("CROWD", x.crowd(0, loud, minute, false), best);
        Check.due("CROWD, many", x.crowd(0, loud, minute, true), most);
    }

    /** Minute by minute: who has heard it, of those who said it in time. */
    private void news(int from, int loud) {
        int[] said = new int[people.size()];
        int[] steps = new int[people.size()];
        java.util.Arrays.fill(said, -1);
        java.util.Arrays.fill(steps, 99);
        said[from] = 0;
        for (int minute = 0; minute < 400; minute++) {
            for (int person = 0; person < people.size(); person++) {
                for (int other = 0; other < people.size(); other++) {
                    int way = Math.abs(at(person) - at(other));
                    if (said[person] < 0 && said[other] >= 0 && way <= RANGE[loud] && said[other] + way == minute) {
                        said[person] = minute;
                        person = -1;
                        break;
                    }
                }
            }
        }
        Set<Integer> now = new HashSet<>(Set.of(from));
        for (int step = 0; step < 7; step++) {
            Set<Integer> next = new HashSet<>(now);
            for (int person : now) {
                steps[person] = Math.min(steps[person], step);
                for (int other = 0; other < people.size(); other++) {
                    if (Math.abs(at(person) - at(other)) <= RANGE[loud]) {
                        next.add(other);
                    }
                }
            }
            now = next;
        }
        int many = 0;
        int last = 0;
        for (int person = 0; person < people.size(); person++) {
            many += said[person] >= 0 ? 1 : 0;
            last = Math.max(last, said[person]);
            Check.due("RELAYED", x.relayed(0, from, person, loud), steps[person] == 99 ? -1 : steps[person]);
        }
        Check.due("SPREAD", x.spread(0, from, loud, false), many);
        Check.due("SPREAD, minute", x.spread(0, from, loud, true), last);
    }

    /** Of all ways to couple SELLERS and BUYERS that hold, the one that is best for each SELLER. */
    private void matches() {
        int[] with = new int[people.size()];
        java.util.Arrays.fill(with, -1);
        int[] best = with.clone();
        List<int[]> stable = new ArrayList<>();
        couple(0, with, stable);
        for (int[] one : stable) {
            for (int p = 0; p < one.length; p++) {
                if (people.get(p)[0] == 0 && one[p] >= 0 && (best[p] < 0 || rank(p, one[p]) < rank(p, best[p]))) {
                    best[p] = one[p];
                }
            }
        }
        for (int p = 0; p < best.length; p++) {
            Check.due("MATCHED", x.matched(0, p), people.get(p)[0] == 0 ? best[p] : indexOf(best, p));
        }
    }

    private int indexOf(int[] best, int buyer) {
        for (int p = 0; p < best.length; p++) {
            if (people.get(p)[0] == 0 && best[p] == buyer) {
                return p;
            }
        }
        return -1;
    }

    private int rank(int person, int other) {
        return other < 0 ? 10000 : 10 * Math.abs(at(person) - at(other)) + other;
    }

    private void couple(int p, int[] with, List<int[]> stable) {
        if (p == people.size()) {
            if (holds(with)) {
                stable.add(with.clone());
            }
            return;
        }
        couple(p + 1, with, stable);
        if (people.get(p)[0] != 0) {
            return;
        }
        for (int q = 0; q < people.size(); q++) {
            if (people.get(q)[0] == 1 && with[q] < 0) {
                with[p] = q;
                with[q] = p;
                couple(p + 1, with, stable);
                with[p] = -1;
                with[q] = -1;
            }
        }
    }

    private boolean holds(int[] with) {
        for (int p = 0; p < with.length; p++) {
            for (int q = 0; q < with.length; q++) {
                if (people.get(p)[0] == 0 && people.get(q)[0] == 1
                    && rank(p, q) < rank(p, with[p]) && rank(q, p) < rank(q, with[q])) {
                    return false;
                }
            }
        }
        return true;
    }

    private void lessons() {
        int lies = random.nextInt(4);
        int a = random.nextInt(8);
        int b = random.nextInt(8);
        List<int[]> pairs = new ArrayList<>();
        StringBuilder text = new StringBuilder("lies " + lies + ";");
        for (int k = random.nextInt(11); k > 0; k--) {
            int word = random.nextInt(8);
            int came = random.nextInt(4) == 0 ? random.nextInt(8) : (a * word + b) % 8;
            pairs.add(new int[] {word, came});
            text.append("gave ").append(word).append(' ').append(came).append(';');
        }
        Check.due("LESSON", Check.tell(x, 2, text.toString()), 0);
        int[][] comes = new int[8][8];
        int fits = 0;
        int least = 99;
        int rule = -1;
        for (int number = 63; number >= 0; number--) {
            int misses = 0;
            for (int[] pair : pairs) {
                misses += (number / 8 * pair[0] + number % 8) % 8 == pair[1] ? 0 : 1;
            }
            rule = misses <= least ? number : rule;
            least = Math.min(least, misses);
            fits += misses <= lies ? 1 : 0;
            for (int word = 0; word < 8 && misses <= lies; word++) {
                comes[word][(number / 8 * word + number % 8) % 8]++;
            }
        }
        int call = -1;
        int leastLeft = 99;
        for (int word = 0; word < 8; word++) {
            int most = 0;
            int only = -1;
            for (int answer = 0; answer < 8; answer++) {
                most = Math.max(most, comes[word][answer]);
                only = comes[word][answer] == fits && fits > 0 ? answer : only;
            }
            Check.due("COMES", x.rules(0, 10 + word), only);
            call = most < leastLeft ? word : call;
            leastLeft = Math.min(leastLeft, most);
        }
        Check.due("FITS", x.rules(0, 0), fits);
        Check.due("LEAST", x.rules(0, 1), least);
        Check.due("RULE", x.rules(0, 2), rule);
        Check.due("CALL", x.rules(0, 3), fits == 0 ? -1 : call);
    }
}
