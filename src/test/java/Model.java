import java.util.ArrayDeque;
import java.util.ArrayList;
import java.util.Arrays;
import java.util.Deque;
import java.util.List;
import java.util.NoSuchElementException;
import java.util.regex.Matcher;
import java.util.regex.Pattern;

/**
 * The document told a second time, in other words than the class uses: queues are lists, what is ahead is tried out,
 * ways are found between all pairs of stations, and texts are matched.
 */
final class Model {
    private static final Pattern TEXT = Pattern.compile("(?:g[0-7][1-3];|q(?:1[0-5]|[0-9])-[0-5];"
            + "|s(?:1[0-5]|[0-9])-[0-9];|w[0-9];|t[1-9];)+");

    private static final class World {
        List<int[]> lifts = new ArrayList<>();     // lower, upper, zone, interval, capacity, ride, exposure, clock
        List<int[]> liftSums = new ArrayList<>();  // riders, cabins
        List<Deque<Integer>> queues = new ArrayList<>();
        List<int[]> pistes = new ArrayList<>();    // from, to, difficulty, length, state, wear, rest, begun
        List<int[]> guests = new ArrayList<>();    // state, where, rest, skill, zones, first, last
        List<int[]> guestSums = new ArrayList<>(); // rides, pistes, refusals
        int wind;
        int tick;
        int day;

        World copy() {
            World w = new World();
            lifts.forEach(r -> w.lifts.add(r.clone()));
            liftSums.forEach(r -> w.liftSums.add(r.clone()));
            queues.forEach(q -> w.queues.add(new ArrayDeque<>(q)));
            pistes.forEach(r -> w.pistes.add(r.clone()));
            guests.forEach(r -> w.guests.add(r.clone()));
            guestSums.forEach(r -> w.guestSums.add(r.clone()));
            w.wind = wind;
            w.tick = tick;
            w.day = day;
            return w;
        }
    }

    private World w = new World();
    private World saved;
    private final Deque<World> past = new ArrayDeque<>();
    private String input = "";
    private int reason;
    private int error = -1;

    private void remember(World before) {
        past.addLast(before);
        if (past.size() > 8) {
            past.removeFirst();
        }
    }

    private static void index(boolean isThere) {
        if (!isThere) {
            throw new IndexOutOfBoundsException();
        }
    }

    private static void argument(boolean isRight) {
        if (!isRight) {
            throw new IllegalArgumentException();
        }
    }

    private static void state(boolean isRight) {
        if (!isRight) {
            throw new IllegalStateException();
        }
    }

    private static void element(boolean isThere) {
        if (!isThere) {
            throw new NoSuchElementException();
        }
    }

    private static void station(int s) {
        index(0 <= s && s < 8);
    }

    private void liftThere(int k) {
        index(0 <= k && k < w.lifts.size());
    }

    private void pisteThere(int k) {
        index(0 <= k && k < w.pistes.size());
    }

    private void guestThere(int k) {
        index(0 <= k && k < w.guests.size());
    }

    int clear() {
        int n = w.guests.size();
        w = new World();
        past.clear();
        return n;
    }

    int addLift(int lower, int upper, int zone, int interval, int capacity, int ride) {
        station(lower);
        station(upper);
        boolean rideRight = false;
        for (int r = 1; r <= 9; r++) {
            for (int e = 0; e <= 3; e++) {
                rideRight |= ride == 10 * r + e;
            }
        }
        argument(lower != upper && 0 <= zone && zone <= 3 && 1 <= interval && interval <= 6 && 1 <= capacity
                && capacity <= 8 && rideRight);
        state(w.lifts.size() < 6);
        remember(w.copy());
        w.lifts.add(new int[] {lower, upper, zone, interval, capacity, ride / 10, ride % 10, 0});
        w.liftSums.add(new int[2]);
        w.queues.add(new ArrayDeque<>());
        return w.lifts.size() - 1;
    }

    int addPiste(int from, int to, int difficulty, int length) {
        station(from);
        station(to);
        argument(from != to && 1 <= difficulty && difficulty <= 3 && 1 <= length && length <= 9);
        state(w.pistes.size() < 10);
        remember(w.copy());
        w.pistes.add(new int[] {from, to, difficulty, length, 0, 0, 0, 0});
        return w.pistes.size() - 1;
    }

    int setWind(int wind) {
        argument(0 <= wind && wind <= 9);
        remember(w.copy());
        w.wind = wind;
        int set = 0;
        for (int k = 0; k < w.lifts.size(); k++) {
            set += liftState(k) == 2 ? 1 << k : 0;
        }
        return set;
    }

    private int liftState(int k) {
        int force = w.wind + w.lifts.get(k)[6];
        return force < 6 ? 0 : force <= 8 ? 1 : 2;
    }

    private int guestsAs(int state, int where) {
        return (int) w.guests.stream().filter(g -> g[0] == state && (where < 0 || g[1] == where)).count();
    }

    int lift(int lift, int what) {
        liftThere(lift);
        argument(0 <= what && what <= 10);
        int[] told = Arrays.copyOf(w.lifts.get(lift), 11);
        told[8] = told[7];
        told[7] = liftState(lift);
        told[9] = w.queues.get(lift).size();
        told[10] = guestsAs(2, lift);
        return told[what];
    }

    int piste(int piste, int what) {
        pisteThere(piste);
        argument(0 <= what && what <= 7);
        return what == 7 ? guestsAs(3, piste) : w.pistes.get(piste)[what];
    }

    int open(int piste, boolean isOpen) {
        pisteThere(piste);
        int[] p = w.pistes.get(piste);
        state(!isOpen || p[5] < 20);
        remember(w.copy());
        int previous = p[4];
        p[4] = isOpen ? 0 : 1;
        p[6] = 0;
        return previous;
    }

    int groom(int piste) {
        pisteThere(piste);
        int[] p = w.pistes.get(piste);
        state(p[4] == 1);
        remember(w.copy());
        p[4] = 2;
        p[6] = p[5] / 5 + 1;
        return p[6];
    }

    int count(int what) {
        argument(0 <= what && what <= 11);
        int[] told = {w.lifts.size(), w.pistes.size(), w.guests.size(), w.wind, w.tick, w.day, guestsAs(0, -1),
            guestsAs(1, -1), guestsAs(2, -1), guestsAs(3, -1), guestsAs(4, -1),
            (int) w.pistes.stream().filter(p -> p[4] == 0).count()};
        return told[what];
    }

    int addGuest(int station, int skill, int zones, int first, int last) {
        station(station);
        argument(1 <= skill && skill <= 3 && 0 <= zones && zones <= 15 && 0 <= first && first <= 1000 && 0 <= last
                && last <= 1000);
        state(w.guests.size() < 16);
        remember(w.copy());
        w.guests.add(new int[] {0, station, 0, skill, zones, first, last});
        w.guestSums.add(new int[3]);
        return w.guests.size() - 1;
    }

    int guest(int guest, int what) {
        guestThere(guest);
        argument(0 <= what && what <= 6);
        int[] g = w.guests.get(guest);
        if (what == 2 && g[0] == 1) {
            return new ArrayList<>(w.queues.get(g[1])).indexOf(guest);
        }
        return g[what];
    }

    private boolean opens(int[] g, int lift) {
        return (g[4] & 1 << w.lifts.get(lift)[2]) > 0 && w.day >= g[5] && w.day <= g[6];
    }

    int whyNotQueue(int guest, int lift) {
        guestThere(guest);
        liftThere(lift);
        int[] g = w.guests.get(guest);
        return g[0] != 0 ? 1 : g[1] != w.lifts.get(lift)[0] ? 2 : !opens(g, lift) ? 3 : liftState(lift) == 2 ? 4
                : w.queues.get(lift).size() == 10 ? 5 : 0;
    }

    int whyNotSki(int guest, int piste) {
        guestThere(guest);
        pisteThere(piste);
        int[] g = w.guests.get(guest);
        int[] p = w.pistes.get(piste);
        return g[0] != 0 ? 1 : g[1] != p[0] ? 2 : p[4] != 0 ? 6 : p[2] > g[3] + 1 ? 7 : 0;
    }

    private void refuse(int guest, int why) {
        if (why > 0) {
            reason = why;
            w.guestSums.get(guest)[2]++;
            throw new UnsupportedOperationException();
        }
    }

    int queue(int guest, int lift) {
        refuse(guest, whyNotQueue(guest, lift));
        remember(w.copy());
        w.queues.get(lift).addLast(guest);
        w.guests.get(guest)[0] = 1;
        w.guests.get(guest)[1] = lift;
        return w.queues.get(lift).size() - 1;
    }

    private int pisteRest(int[] g, int[] p) {
        return p[3] * (p[2] > g[3] ? 2 : 1);
    }

    int ski(int guest, int piste) {
        refuse(guest, whyNotSki(guest, piste));
        remember(w.copy());
        int[] g = w.guests.get(guest);
        int[] p = w.pistes.get(piste);
        g[0] = 3;
        g[1] = piste;
        g[2] = pisteRest(g, p);
        p[5] += p[2];
        p[7]++;
        w.guestSums.get(guest)[1]++;
        return g[2];
    }

    int leave(int guest) {
        guestThere(guest);
        int[] g = w.guests.get(guest);
        state(g[0] < 2);
        remember(w.copy());
        if (g[0] == 1) {
            w.queues.get(g[1]).remove(guest);
            g[1] = w.lifts.get(g[1])[0];
            g[0] = 0;
        } else {
            g[0] = 4;
            g[1] = -1;
        }
        return g[0];
    }

    int reason() {
        element(reason > 0);
        return reason;
    }

    int opened(int guest) {
        guestThere(guest);
        int set = 0;
        for (int k = 0; k < w.lifts.size(); k++) {
            set += opens(w.guests.get(guest), k) ? 1 << k : 0;
        }
        return set;
    }

    int queued(int lift, int place) {
        liftThere(lift);
        element(0 <= place && place < w.queues.get(lift).size());
        return new ArrayList<>(w.queues.get(lift)).get(place);
    }

    private int tick() {
        int come = 0;
        for (int[] g : w.guests) {
            if (g[0] == 2) {
                g[2] -= 2 - liftState(g[1]);
                if (g[2] <= 0) {
                    come += arrive(g, w.lifts.get(g[1])[1]);
                }
            }
        }
        for (int[] g : w.guests) {
            if (g[0] == 3 && --g[2] == 0) {
                come += arrive(g, w.pistes.get(g[1])[1]);
            }
        }
        for (int k = 0; k < w.lifts.size(); k++) {
            int[] l = w.lifts.get(k);
            l[7] += 2 - liftState(k);
            while (l[7] >= 2 * l[3]) {
                l[7] -= 2 * l[3];
                depart(k, l);
            }
        }
        for (int[] p : w.pistes) {
            if (p[4] == 2 && --p[6] == 0) {
                p[5] = 0;
                p[4] = 0;
            }
        }
        for (int[] p : w.pistes) {
            if (p[4] == 0 && p[5] >= 20) {
                p[4] = 1;
            }
        }
        w.tick++;
        return come;
    }

    private int arrive(int[] g, int station) {
        g[0] = 0;
        g[1] = station;
        g[2] = 0;
        return 1;
    }

    private void depart(int k, int[] l) {
        w.liftSums.get(k)[1]++;
        for (int seat = 0; seat < l[4] && !w.queues.get(k).isEmpty(); seat++) {
            int guest = w.queues.get(k).removeFirst();
            w.guests.get(guest)[0] = 2;
            w.guests.get(guest)[2] = 2 * l[5];
            w.guestSums.get(guest)[0]++;
            w.liftSums.get(k)[0]++;
        }
    }

    int advance(int ticks) {
        argument(1 <= ticks && ticks <= 50);
        state(w.tick + ticks <= 1000);
        remember(w.copy());
        int come = 0;
        for (int i = 0; i < ticks; i++) {
            come += tick();
        }
        return come;
    }

    int endDay() {
        state(w.day < 1000);
        remember(w.copy());
        int gone = 0;
        for (int[] g : w.guests) {
            gone += g[0] == 4 ? 0 : 1;
            g[0] = 4;
            g[1] = -1;
            g[2] = 0;
        }
        w.queues.forEach(Deque::clear);
        w.lifts.forEach(l -> l[7] = 0);
        w.pistes.stream().filter(p -> p[4] == 2).forEach(p -> {
            p[4] = 0;
            p[5] = 0;
            p[6] = 0;
        });
        w.tick = 0;
        w.day++;
        return gone;
    }

    int arrival(int guest) {
        guestThere(guest);
        World here = w;
        w = w.copy();
        int ticks = 0;
        while (ticks <= 60 && w.guests.get(guest)[0] != 0) {
            tick();
            ticks++;
        }
        w = here;
        element(ticks <= 60);
        return ticks;
    }

    int nextCabin(int lift) {
        liftThere(lift);
        element(liftState(lift) < 2);
        World here = w;
        w = w.copy();
        int cabins = w.liftSums.get(lift)[1];
        int ticks = 0;
        while (w.liftSums.get(lift)[1] == cabins) {
            tick();
            ticks++;
        }
        w = here;
        return ticks;
    }

    /** The parts that belong to ways of a guest, in the order in which firstPart tells them: from, to, cost, number. */
    private List<int[]> parts(int guest) {
        int[] g = w.guests.get(guest);
        List<int[]> parts = new ArrayList<>();
        for (int k = 0; k < w.lifts.size(); k++) {
            int[] l = w.lifts.get(k);
            if (opens(g, k) && liftState(k) < 2) {
                parts.add(new int[] {l[0], l[1], l[5], k});
            }
        }
        for (int k = 0; k < w.pistes.size(); k++) {
            int[] p = w.pistes.get(k);
            if (p[4] == 0 && p[2] <= g[3] + 1) {
                parts.add(new int[] {p[0], p[1], pisteRest(g, p), 100 + k});
            }
        }
        return parts;
    }

    private int[][] durations(int guest) {
        int[][] d = new int[8][8];
        for (int i = 0; i < 8; i++) {
            Arrays.fill(d[i], 9999);
            d[i][i] = 0;
        }
        for (int[] p : parts(guest)) {
            d[p[0]][p[1]] = Math.min(d[p[0]][p[1]], p[2]);
        }
        for (int k = 0; k < 8; k++) {
            for (int i = 0; i < 8; i++) {
                for (int j = 0; j < 8; j++) {
                    d[i][j] = Math.min(d[i][j], d[i][k] + d[k][j]);
                }
            }
        }
        return d;
    }

    int duration(int guest, int from, int to) {
        guestThere(guest);
        station(from);
        station(to);
        int d = durations(guest)[from][to];
        element(d < 9999);
        return d;
    }

    int firstPart(int guest, int from, int to) {
        int d = duration(guest, from, to);
        element(from != to);
        int[][] all = durations(guest);
        for (int[] p : parts(guest)) {
            if (p[0] == from && p[2] + all[p[1]][to] == d) {
                return p[3];
            }
        }
        throw new IllegalStateException("the model is wrong");
    }

    int reachable(int guest, int station) {
        guestThere(guest);
        station(station);
        int set = 0;
        for (int s = 0; s < 8; s++) {
            set += durations(guest)[station][s] < 9999 ? 1 << s : 0;
        }
        return set;
    }

    int stranded(int guest, int station) {
        guestThere(guest);
        station(station);
        int set = 0;
        for (int s = 0; s < 8; s++) {
            set += durations(guest)[s][station] < 9999 ? 0 : 1 << s;
        }
        return set;
    }

    int liftAccount(int lift, int account) {
        liftThere(lift);
        argument(account == 0 || account == 1);
        return w.liftSums.get(lift)[account];
    }

    int guestAccount(int guest, int account) {
        guestThere(guest);
        argument(0 <= account && account <= 2);
        return w.guestSums.get(guest)[account];
    }

    int pisteAccount(int piste) {
        pisteThere(piste);
        return w.pistes.get(piste)[7];
    }

    int audit() {
        int rides = 0;
        int runs = 0;
        for (int[] s : w.liftSums) {
            rides += s[0];
        }
        for (int[] p : w.pistes) {
            runs += p[7];
        }
        for (int[] s : w.guestSums) {
            rides -= s[0];
            runs -= s[1];
        }
        return Math.abs(rides) + Math.abs(runs);
    }

    int busiest() {
        int most = w.liftSums.stream().mapToInt(s -> s[0]).max().orElse(0);
        element(most > 0);
        int k = 0;
        while (w.liftSums.get(k)[0] != most) {
            k++;
        }
        return k;
    }

    double load(int lift) {
        liftThere(lift);
        int[] s = w.liftSums.get(lift);
        if (s[1] == 0) {
            throw new ArithmeticException();
        }
        return (double) s[0] / s[1];
    }

    int append(char character) {
        argument(' ' <= character && character <= '~');
        state(input.length() < 60);
        input += character;
        return input.length();
    }

    int read() {
        String text = input;
        input = "";
        Matcher m = TEXT.matcher(text);
        if (!m.matches()) {
            error = 0;
            while (error < text.length() && canBegin(text.substring(0, error + 1))) {
                error++;
            }
            throw new IllegalArgumentException();
        }
        World before = w.copy();
        Deque<World> pastBefore = new ArrayDeque<>(past);
        String[] entries = text.split(";");
        boolean isDone = true;
        try {
            for (String entry : entries) {
                enter(entry);
            }
        } catch (RuntimeException e) {
            isDone = false;
            w = before;
        }
        past.clear();
        past.addAll(pastBefore);
        state(isDone);
        remember(before);
        return entries.length;
    }

    private static boolean canBegin(String start) {
        Matcher m = TEXT.matcher(start);
        return m.matches() || m.hitEnd();
    }

    private void enter(String entry) {
        String rest = entry.substring(1);
        switch (entry.charAt(0)) {
            case 'g' -> addGuest(rest.charAt(0) - '0', rest.charAt(1) - '0', 15, w.day, w.day);
            case 'q' -> queue(Integer.parseInt(rest.split("-")[0]), Integer.parseInt(rest.split("-")[1]));
            case 's' -> ski(Integer.parseInt(rest.split("-")[0]), Integer.parseInt(rest.split("-")[1]));
            case 'w' -> setWind(Integer.parseInt(rest));
            default -> advance(Integer.parseInt(rest));
        }
    }

    int errorPosition() {
        element(error >= 0);
        return error;
    }

    int undo() {
        element(!past.isEmpty());
        w = past.removeLast();
        return past.size();
    }

    int save() {
        saved = w.copy();
        return w.guests.size();
    }

    int restore() {
        state(saved != null);
        w = saved.copy();
        past.clear();
        return w.guests.size();
    }
}
