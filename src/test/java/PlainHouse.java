import java.util.ArrayList;
import java.util.Collections;
import java.util.Comparator;
import java.util.HashSet;
import java.util.LinkedHashSet;
import java.util.List;
import java.util.Set;
import java.util.stream.Collectors;

/** The document once more, word by word and with the Java library, to be asked beside DeltaNights. */
public final class PlainHouse {

    private static final class Link {
        boolean base;
        int chainNumber;
        int night;
        List<List<Integer>> row;
        Set<List<Integer>> held;

        int bytes() {
            return row.size() + held.stream().mapToInt(List::size).sum();
        }

        List<Integer> file() {
            return row.stream().flatMap(List::stream).collect(Collectors.toList());
        }
    }

    private static final class Client {
        final int number;
        final List<Integer> file = new ArrayList<>();
        final List<Link> links = new ArrayList<>();
        int bid;
        int bound = 5;
        int cheap;
        int minutes = 60;
        int coin;
        int paid;
        int owed;

        Client(int number) {
            this.number = number;
        }

        Link latest() {
            return links.isEmpty() ? null : links.get(links.size() - 1);
        }

        List<Link> chainOf(Link link) {
            return links.stream().filter(l -> l.chainNumber == link.chainNumber)
                    .collect(Collectors.toList());
        }
    }

    private final List<Client> clients =
            List.of(new Client(0), new Client(1), new Client(2), new Client(3));
    private int bits = 2;
    private int least = 3;
    private int most = 12;
    private int room = 200;
    private int reserve = 1;
    private int mount = 5;
    private int speed = 4;
    private int nights;

    public int put(int client, int place, int value) {
        Client c = known(client, value >= 0 && value <= 255);
        there(place >= 0 && place <= c.file.size());
        allowed(c.file.size() < 48);
        c.file.add(place, value);
        return c.file.size();
    }

    public int set(int client, int place, int value) {
        Client c = known(client, value >= 0 && value <= 255);
        there(place >= 0 && place < c.file.size());
        return c.file.set(place, value);
    }

    public int cut(int client, int place, int many) {
        run(client, place, many).clear();
        return length(client);
    }

    public int copy(int client, int place, int many, int other) {
        known(client, other >= 0 && other <= 3);
        List<Integer> taken = new ArrayList<>(run(client, place, many));
        allowed(length(other) + taken.size() <= 48);
        clients.get(other).file.addAll(taken);
        return length(other);
    }

    public int length(int client) {
        return known(client, true).file.size();
    }

    public int at(int client, int place) {
        Client c = known(client, true);
        there(place >= 0 && place < c.file.size());
        return c.file.get(place);
    }

    public long digest(int client) {
        return digestOf(known(client, true).file);
    }

    public void setMarks(int bits, int least, int most) {
        argument(bits >= 0 && bits <= 8 && least >= 1 && least <= 16 && most >= least && most <= 24);
        this.bits = bits;
        this.least = least;
        this.most = most;
    }

    public int mark(int client, int place) {
        at(client, place);
        return markAt(clients.get(client).file, place);
    }

    public int chunks(int client) {
        return cutUp(known(client, true).file).size();
    }

    public int end(int client, int chunk) {
        there(chunks(client) > chunk && chunk >= 0);
        return cutUp(clients.get(client).file).subList(0, chunk + 1).stream().mapToInt(List::size).sum();
    }

    public int store() {
        Set<List<Integer>> all = new HashSet<>();
        clients.forEach(c -> c.links.forEach(l -> all.addAll(l.held)));
        return all.size();
    }

    public void setNight(int room, int reserve) {
        argument(room >= 0 && room <= 500 && reserve >= 0 && reserve <= 50);
        this.room = room;
        this.reserve = reserve;
    }

    public int bid(int client, int price) {
        Client c = known(client, price >= 0 && price <= 100);
        int before = c.bid;
        c.bid = price;
        return before;
    }

    public void setChain(int client, int bound, int cheap) {
        Client c = known(client, bound >= 0 && bound <= 30 && cheap >= 0 && cheap <= 50);
        c.bound = bound;
        c.cheap = cheap;
    }

    public int forBase(int client) {
        return base(known(client, true)).bytes();
    }

    public int forDifference(int client) {
        Client c = known(client, true);
        allowed(c.latest() != null);
        return difference(c).bytes();
    }

    public int would(int client) {
        Client c = known(client, true);
        Link link = auction(new int[4])[c.number];
        return link == null ? 0 : link.base ? 1 : 2;
    }

    public int night() {
        allowed(nights < 60);
        int[] prices = new int[4];
        Link[] links = auction(prices);
        int served = 0;
        for (Client c : clients) {
            if (links[c.number] != null) {
                links[c.number].night = nights;
                c.links.add(links[c.number]);
                c.paid += links[c.number].bytes() * prices[c.number];
                served++;
            }
        }
        nights++;
        return served;
    }

    public int nights() {
        return nights;
    }

    public int got(int client, int night) {
        Client c = known(client, true);
        there(night >= 0 && night < nights);
        return c.links.stream().filter(l -> l.night == night).mapToInt(l -> l.base ? 1 : 2).sum();
    }

    public int dayOf(int client, int night) {
        Client c = known(client, true);
        there(night >= 0 && night < nights);
        return c.links.stream().mapToInt(l -> l.night).filter(n -> n <= night).max().orElse(-1);
    }

    public int chain(int client) {
        Client c = known(client, true);
        return c.latest() == null ? -1 : c.chainOf(c.latest()).size() - 1;
    }

    public int bytes(int client, int night) {
        return link(client, night).bytes();
    }

    public int held(int client, int night) {
        return link(client, night).held.size();
    }

    public int lengthOf(int client, int night) {
        return link(client, night).file().size();
    }

    public long digestOf(int client, int night) {
        return digestOf(link(client, night).file());
    }

    public long digestByChunks(int client, int night) {
        return digestOf(client, night);
    }

    public int restore(int client, int night) {
        List<Integer> then = link(client, night).file();
        List<Integer> now = clients.get(client).file;
        int changed = 0;
        for (int place = 0; place < 48; place++) {
            Integer before = place < now.size() ? now.get(place) : null;
            Integer after = place < then.size() ? then.get(place) : null;
            changed += java.util.Objects.equals(before, after) ? 0 : 1;
        }
        now.clear();
        now.addAll(then);
        return changed;
    }

    public void setSpeed(int mount, int speed) {
        argument(mount >= 0 && mount <= 30 && speed >= 1 && speed <= 50);
        this.mount = mount;
        this.speed = speed;
    }

    public int mounts(int client, int night) {
        Link day = link(client, night);
        return (int) clients.get(client).chainOf(day).stream()
                .filter(l -> l == day || !Collections.disjoint(l.held, day.row)).count();
    }

    public float minutes(int client, int night) {
        Link day = link(client, night);
        int read = day.row.size() + new HashSet<>(day.row).stream().mapToInt(List::size).sum();
        return (float) mount * (float) mounts(client, night) + (float) read / (float) speed;
    }

    public int hourBits(int client, int night) {
        return Float.floatToIntBits(minutes(client, night) / 60f);
    }

    public void promise(int client, int minutes, int coin) {
        Client c = known(client, minutes >= 0 && minutes <= 600 && coin >= 0 && coin <= 100);
        c.minutes = minutes;
        c.coin = coin;
    }

    public int drill(int client) {
        Client c = known(client, true);
        allowed(c.latest() != null);
        double more = (double) minutes(client, c.latest().night) - c.minutes;
        int pay = more > 0 ? (int) Math.ceil(more) * c.coin : 0;
        c.owed += pay;
        return pay;
    }

    public int paid(int client) {
        return known(client, true).paid;
    }

    public int owed(int client) {
        return known(client, true).owed;
    }

    public int purse() {
        return clients.stream().mapToInt(c -> c.paid - c.owed).sum();
    }

    private static void argument(boolean good) {
        if (!good) {
            throw new IllegalArgumentException();
        }
    }

    private static void there(boolean good) {
        if (!good) {
            throw new IndexOutOfBoundsException();
        }
    }

    private static void allowed(boolean good) {
        if (!good) {
            throw new IllegalStateException();
        }
    }

    private Client known(int client, boolean good) {
        argument(client >= 0 && client <= 3 && good);
        return clients.get(client);
    }

    private List<Integer> run(int client, int place, int many) {
        List<Integer> file = known(client, true).file;
        there(place >= 0 && many >= 0 && (long) place + many <= file.size());
        return file.subList(place, place + many);
    }

    private Link link(int client, int night) {
        Client c = known(client, true);
        there(night >= 0 && night < nights);
        Link found = c.links.stream().filter(l -> l.night == night).findFirst().orElse(null);
        allowed(found != null);
        return found;
    }

    private static long digestOf(List<Integer> bytes) {
        long digest = 0;
        for (int value : bytes) {
            digest = Long.rotateLeft(digest, 5) ^ value;
        }
        return digest;
    }

    private static int markAt(List<Integer> file, int place) {
        String mark = "0".repeat(16);
        for (int value : file.subList(Math.max(0, place - 3), place + 1)) {
            String turned = mark.substring(3) + mark.substring(0, 3);
            mark = String.format("%16s", Integer.toBinaryString(
                    Integer.parseInt(turned, 2) ^ (int) (40503L * value % 65536))).replace(' ', '0');
        }
        return Integer.parseInt(mark, 2);
    }

    private List<List<Integer>> cutUp(List<Integer> file) {
        List<List<Integer>> row = new ArrayList<>();
        List<Integer> chunk = new ArrayList<>();
        for (int place = 0; place < file.size(); place++) {
            chunk.add(file.get(place));
            boolean marked = markAt(file, place) % (1 << bits) == 0;
            if (place == file.size() - 1 || chunk.size() == most || (chunk.size() >= least && marked)) {
                row.add(chunk);
                chunk = new ArrayList<>();
            }
        }
        return row;
    }

    private Link base(Client c) {
        Link link = new Link();
        link.base = true;
        link.chainNumber = c.latest() == null ? 0 : c.latest().chainNumber + 1;
        link.row = cutUp(c.file);
        link.held = new LinkedHashSet<>(link.row);
        return link;
    }

    private Link difference(Client c) {
        Link link = new Link();
        link.chainNumber = c.latest().chainNumber;
        link.row = cutUp(c.file);
        link.held = new LinkedHashSet<>(link.row);
        c.chainOf(c.latest()).forEach(l -> link.held.removeAll(l.held));
        return link;
    }

    private boolean wantsBase(Client c) {
        return c.latest() == null || (chain(c.number) >= c.bound && reserve <= c.cheap);
    }

    private boolean hasAnotherRow(Client c) {
        return c.latest() != null && !c.latest().row.equals(cutUp(c.file));
    }

    private Link[] auction(int[] prices) {
        List<Client> turns = clients.stream()
                .filter(c -> c.bid > 0 && c.bid >= reserve && (wantsBase(c) || hasAnotherRow(c)))
                .sorted(Comparator.comparingInt((Client c) -> -c.bid).thenComparingInt(c -> c.number))
                .collect(Collectors.toList());
        Link[] links = new Link[4];
        int left = room;
        for (Client c : turns) {
            if (wantsBase(c) && base(c).bytes() <= left) {
                links[c.number] = base(c);
            } else if (hasAnotherRow(c) && difference(c).bytes() <= left) {
                links[c.number] = difference(c);
            }
            left -= links[c.number] == null ? 0 : links[c.number].bytes();
        }
        for (int turn = 0; turn < turns.size(); turn++) {
            prices[turns.get(turn).number] = Math.max(reserve, turns.subList(turn + 1, turns.size())
                    .stream().filter(c -> links[c.number] == null).mapToInt(c -> c.bid).max().orElse(0));
        }
        return links;
    }
}
