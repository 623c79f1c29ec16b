/**
 * A backup house: files of bytes that are cut into chunks, chains of differences on bases, nights
 * whose bytes are sold by bids, drills, and promises of minutes.
 *
 * <p>The numbered promises that it keeps stand in the project's document.
 */
public final class DeltaNights {

    private static final int CLIENTS = 4;
    private static final int MOST_BYTES = 48;
    private static final int MOST_NIGHTS = 60;
    private static final int GREATEST_BYTE = 255;

    private static final int NOTHING = 0;
    private static final int BASE = 1;
    private static final int DIFFERENCE = 2;

    private final Client[] clients = new Client[CLIENTS];
    private final Marks marks = new Marks();
    private final House house = new House();
    private final Market market = new Market();
    private final Recovery recovery = new Recovery();
    private int nightsGone = 0;

    public DeltaNights() {
        for (int i = 0; i < clients.length; i++) {
            clients[i] = new Client();
        }
    }

    // ---- files

    public int put(int client, int place, int value)
            throws IllegalArgumentException, IndexOutOfBoundsException, IllegalStateException {
        ByteFile file = clientOf(client).file;
        needRange(value, 0, GREATEST_BYTE);
        if (place < 0 || place > file.size) {
            throw new IndexOutOfBoundsException("no such place");
        }
        if (!file.hasSpaceFor(1)) {
            throw new IllegalStateException("the file is full");
        }
        file.insert(place, value);
        return file.size;
    }

    public int set(int client, int place, int value)
            throws IllegalArgumentException, IndexOutOfBoundsException {
        ByteFile file = clientOf(client).file;
        needRange(value, 0, GREATEST_BYTE);
        needByte(file, place);
        return file.replace(place, value);
    }

    public int cut(int client, int place, int many)
            throws IllegalArgumentException, IndexOutOfBoundsException {
        ByteFile file = clientOf(client).file;
        needRun(file, place, many);
        file.remove(place, many);
        return file.size;
    }

    public int copy(int client, int place, int many, int other)
            throws IllegalArgumentException, IndexOutOfBoundsException, IllegalStateException {
        ByteFile from = clientOf(client).file;
        ByteFile to = clientOf(other).file;
        needRun(from, place, many);
        if (!to.hasSpaceFor(many)) {
            throw new IllegalStateException("the other file would be too long");
        }
        to.append(from, place, many);
        return to.size;
    }

    public int length(int client) throws IllegalArgumentException {
        return clientOf(client).file.size;
    }

    public int at(int client, int place)
            throws IllegalArgumentException, IndexOutOfBoundsException {
        ByteFile file = clientOf(client).file;
        needByte(file, place);
        return file.byteAt(place);
    }

    public long digest(int client) throws IllegalArgumentException {
        return clientOf(client).file.fingerprint();
    }

    // ---- marks and chunks

    public void setMarks(int bits, int least, int most) throws IllegalArgumentException {
        needRange(bits, 0, 8);
        needRange(least, 1, 16);
        needRange(most, least, 24);
        marks.bits = bits;
        marks.least = least;
        marks.most = most;
    }

    public int mark(int client, int place)
            throws IllegalArgumentException, IndexOutOfBoundsException {
        ByteFile file = clientOf(client).file;
        needByte(file, place);
        return marks.markAt(file, place);
    }

    public int chunks(int client) throws IllegalArgumentException {
        return freshlyCut(client).parts;
    }

    public int end(int client, int chunk)
            throws IllegalArgumentException, IndexOutOfBoundsException {
        ByteFile file = freshlyCut(client);
        if (chunk < 0 || chunk >= file.parts) {
            throw new IndexOutOfBoundsException("no such chunk");
        }
        return file.partEnd(chunk);
    }

    public int store() {
        return house.kept;
    }

    // ---- the market

    public void setNight(int room, int reserve) throws IllegalArgumentException {
        needRange(room, 0, 500);
        needRange(reserve, 0, 50);
        market.room = room;
        market.reserve = reserve;
    }

    public int bid(int client, int price) throws IllegalArgumentException {
        Client bidder = clientOf(client);
        needRange(price, 0, 100);
        int before = bidder.bid;
        bidder.bid = price;
        return before;
    }

    public void setChain(int client, int bound, int cheap) throws IllegalArgumentException {
        Client owner = clientOf(client);
        needRange(bound, 0, 30);
        needRange(cheap, 0, 50);
        owner.bound = bound;
        owner.cheap = cheap;
    }

    public int forBase(int client) throws IllegalArgumentException {
        return freshlyCut(client).linkBytes(null);
    }

    public int forDifference(int client) throws IllegalArgumentException, IllegalStateException {
        ByteFile file = freshlyCut(client);
        Link latest = clientOf(client).latest;
        if (latest == null) {
            throw new IllegalStateException("the client has no chain");
        }
        return file.linkBytes(latest);
    }

    public int would(int client) throws IllegalArgumentException {
        Client asked = clientOf(client);
        market.hold(clients, marks);
        return asked.gets;
    }

    public int night() throws IllegalStateException {
        if (nightsGone >= MOST_NIGHTS) {
            throw new IllegalStateException("all nights have gone by");
        }
        market.hold(clients, marks);
        int served = 0;
        for (int i = 0; i < clients.length; i++) {
            Client client = clients[i];
            if (client != null && client.gets != NOTHING) {
                serve(client);
                served++;
            }
        }
        nightsGone++;
        return served;
    }

    public int nights() {
        return nightsGone;
    }

    // ---- links and days

    public int got(int client, int night)
            throws IllegalArgumentException, IndexOutOfBoundsException {
        Client owner = clientOf(client);
        needNight(night);
        Link link = owner.linkAt(night);
        if (link == null) {
            return NOTHING;
        }
        return link.earlier == null ? BASE : DIFFERENCE;
    }

    public int dayOf(int client, int night)
            throws IllegalArgumentException, IndexOutOfBoundsException {
        Client owner = clientOf(client);
        needNight(night);
        return owner.latestDayUpTo(night);
    }

    public int chain(int client) throws IllegalArgumentException {
        Link latest = clientOf(client).latest;
        return latest == null ? -1 : latest.differencesUpToHere();
    }

    public int bytes(int client, int night)
            throws IllegalArgumentException, IndexOutOfBoundsException, IllegalStateException {
        return linkOf(client, night).linkBytes();
    }

    public int held(int client, int night)
            throws IllegalArgumentException, IndexOutOfBoundsException, IllegalStateException {
        return linkOf(client, night).holds.count;
    }

    public int lengthOf(int client, int night)
            throws IllegalArgumentException, IndexOutOfBoundsException, IllegalStateException {
        return linkOf(client, night).row.byteCount();
    }

    public long digestOf(int client, int night)
            throws IllegalArgumentException, IndexOutOfBoundsException, IllegalStateException {
        return linkOf(client, night).fingerprintFromChain();
    }

    public long digestByChunks(int client, int night)
            throws IllegalArgumentException, IndexOutOfBoundsException, IllegalStateException {
        return linkOf(client, night).row.fingerprint();
    }

    public int restore(int client, int night)
            throws IllegalArgumentException, IndexOutOfBoundsException, IllegalStateException {
        Link day = linkOf(client, night);
        return clientOf(client).file.become(day.row);
    }

    // ---- drills and promises

    public void setSpeed(int mount, int speed) throws IllegalArgumentException {
        needRange(mount, 0, 30);
        needRange(speed, 1, 50);
        recovery.mount = mount;
        recovery.speed = speed;
    }

    public int mounts(int client, int night)
            throws IllegalArgumentException, IndexOutOfBoundsException, IllegalStateException {
        return linkOf(client, night).linksToMount();
    }

    public float minutes(int client, int night)
            throws IllegalArgumentException, IndexOutOfBoundsException, IllegalStateException {
        return recovery.minutesFor(linkOf(client, night));
    }

    public int hourBits(int client, int night)
            throws IllegalArgumentException, IndexOutOfBoundsException, IllegalStateException {
        return bitsOf(recovery.minutesFor(linkOf(client, night)) / 60f);
    }

    public void promise(int client, int minutes, int coin) throws IllegalArgumentException {
        Client owner = clientOf(client);
        needRange(minutes, 0, 600);
        needRange(coin, 0, 100);
        owner.promised = minutes;
        owner.coin = coin;
    }

    public int drill(int client) throws IllegalArgumentException, IllegalStateException {
        Client owner = clientOf(client);
        if (owner.latest == null) {
            throw new IllegalStateException("the client has no day");
        }
        int pay = owner.payFor(recovery.minutesFor(owner.latest));
        owner.owed += pay;
        return pay;
    }

    public int paid(int client) throws IllegalArgumentException {
        return clientOf(client).paid;
    }

    public int owed(int client) throws IllegalArgumentException {
        return clientOf(client).owed;
    }

    public int purse() {
        int sum = 0;
        for (int i = 0; i < clients.length; i++) {
            Client client = clients[i];
            if (client != null) {
                sum += client.paid - client.owed;
            }
        }
        return sum;
    }

    // ---- what the calls above need of their arguments

    private Client clientOf(int client) throws IllegalArgumentException {
        Client found = client >= 0 && client < clients.length ? clients[client] : null;
        if (found == null) {
            throw new IllegalArgumentException("no such client");
        }
        return found;
    }

    private static void needRange(int value, int least, int most) throws IllegalArgumentException {
        if (value < least || value > most) {
            throw new IllegalArgumentException("out of range");
        }
    }

    private static void needByte(ByteFile file, int place) throws IndexOutOfBoundsException {
        if (place < 0 || place >= file.size) {
            throw new IndexOutOfBoundsException("no byte at this place");
        }
    }

    private static void needRun(ByteFile file, int place, int many)
            throws IndexOutOfBoundsException {
        if (!file.hasRun(place, many)) {
            throw new IndexOutOfBoundsException("no such bytes");
        }
    }

    private void needNight(int night) throws IndexOutOfBoundsException {
        if (night < 0 || night >= nightsGone) {
            throw new IndexOutOfBoundsException("no such night has gone by");
        }
    }

    private Link linkOf(int client, int night)
            throws IllegalArgumentException, IndexOutOfBoundsException, IllegalStateException {
        Client owner = clientOf(client);
        needNight(night);
        Link link = owner.linkAt(night);
        if (link == null) {
            throw new IllegalStateException("the client was not served in this night");
        }
        return link;
    }

    // ---- what several calls do

    private ByteFile freshlyCut(int client) throws IllegalArgumentException {
        ByteFile file = clientOf(client).file;
        marks.cutUp(file);
        return file;
    }

    private void serve(Client client) {
        Link link = house.linkFor(client.file, client.gets == BASE ? null : client.latest);
        client.addLink(nightsGone, link);
        client.paid += link.linkBytes() * client.price;
    }

    private static long foldIn(long digest, int value) {
        return ((digest << 5) | (digest >>> 59)) ^ value;
    }

    /** The bits of a float of 0 or more; Float's own function is not in the library we may use. */
    private static int bitsOf(float value) {
        if (!(value > 0f)) {
            return 0;
        }
        float scaled = value;
        int exponent = 127;
        for (int i = 0; i < 128 && scaled >= 2f; i++) {
            scaled = scaled / 2f;
            exponent++;
        }
        for (int i = 0; i < 128 && scaled < 1f; i++) {
            scaled = scaled * 2f;
            exponent--;
        }
        return (exponent << 23) + (int) ((scaled - 1f) * 8388608f);
    }

    /** A client's file, and the ends of the parts into which it was cut last. */
    private static final class ByteFile {
        final int[] cells = new int[MOST_BYTES];
        final int[] ends = new int[MOST_BYTES];
        int size = 0;
        int parts = 0;

        int byteAt(int place) {
            return place >= 0 && place < cells.length ? cells[place] : 0;
        }

        boolean hasRun(int place, int many) {
            return place >= 0 && many >= 0 && place <= size && many <= size - place;
        }

        boolean hasSpaceFor(int many) {
            return many <= cells.length - size;
        }

        void insert(int place, int value) {
            if (place < 0 || place > size || size >= cells.length) {
                return;
            }
            for (int i = size; i > place; i--) {
                cells[i] = cells[i - 1];
            }
            cells[place] = value;
            size++;
        }

        int replace(int place, int value) {
            int before = byteAt(place);
            if (place >= 0 && place < cells.length) {
                cells[place] = value;
            }
            return before;
        }

        void remove(int place, int many) {
            if (!hasRun(place, many)) {
                return;
            }
            for (int i = place; i < size - many && i < cells.length; i++) {
                cells[i] = byteAt(i + many);
            }
            size -= many;
        }

        void append(ByteFile from, int place, int many) {
            for (int i = 0; i < many && size >= 0 && size < cells.length; i++) {
                cells[size] = from.byteAt(place + i);
                size++;
            }
        }

        /** Takes over the bytes of a day and tells at how many places this changed the file. */
        int become(ChunkRow row) {
            int changed = 0;
            int place = 0;
            for (int i = 0; i < row.count; i++) {
                Chunk chunk = row.chunkAt(i);
                for (int j = 0; chunk != null && j < chunk.size() && place < cells.length; j++) {
                    int value = chunk.byteAt(j);
                    if (place >= size || cells[place] != value) {
                        changed++;
                    }
                    cells[place] = value;
                    place++;
                }
            }
            changed += Math.max(size - place, 0);
            size = place;
            return changed;
        }

        long fingerprint() {
            long digest = 0L;
            for (int i = 0; i < size; i++) {
                digest = foldIn(digest, byteAt(i));
            }
            return digest;
        }

        void endPart(int end) {
            if (parts >= 0 && parts < ends.length) {
                ends[parts] = end;
                parts++;
            }
        }

        int partEnd(int part) {
            return part >= 0 && part < parts && part < ends.length ? ends[part] : 0;
        }

        /** The bytes of a link of this file: a difference behind a link, or a base behind none. */
        int linkBytes(Link latest) {
            int sum = parts;
            for (int part = 0; part < parts; part++) {
                int start = partEnd(part - 1);
                int many = partEnd(part) - start;
                boolean isHeld = latest != null && latest.chainHoldsRun(this, start, many);
                if (!isHeld && !hasPartBefore(part, start, many)) {
                    sum += many;
                }
            }
            return sum;
        }

        private boolean hasPartBefore(int part, int start, int many) {
            for (int i = 0; i < part; i++) {
                int other = partEnd(i - 1);
                if (partEnd(i) - other == many && sameRuns(other, start, many)) {
                    return true;
                }
            }
            return false;
        }

        private boolean sameRuns(int one, int other, int many) {
            for (int i = 0; i < many; i++) {
                if (byteAt(one + i) != byteAt(other + i)) {
                    return false;
                }
            }
            return true;
        }

        boolean isCutAs(ChunkRow row) {
            if (row.count != parts) {
                return false;
            }
            for (int part = 0; part < parts; part++) {
                int start = partEnd(part - 1);
                Chunk chunk = row.chunkAt(part);
                if (chunk == null || !chunk.isRun(this, start, partEnd(part) - start)) {
                    return false;
                }
            }
            return true;
        }
    }

    /** How the bytes of a file tell where its chunks end. */
    private static final class Marks {
        int bits = 2;
        int least = 3;
        int most = 12;

        int markAt(ByteFile file, int place) {
            int mark = 0;
            for (int back = 3; back >= 0; back--) {
                if (back <= place) {
                    mark = ((mark << 3) | (mark >>> 13)) & 0xFFFF;
                    mark ^= (40503 * file.byteAt(place - back)) & 0xFFFF;
                }
            }
            return mark;
        }

        void cutUp(ByteFile file) {
            file.parts = 0;
            int start = 0;
            for (int place = 0; place < file.size; place++) {
                if (endsBehind(file, place, place + 1 - start)) {
                    start = place + 1;
                    file.endPart(start);
                }
            }
        }

        private boolean endsBehind(ByteFile file, int place, int many) {
            if (place + 1 >= file.size || many >= most) {
                return true;
            }
            int lowest = (1 << bits) - 1;
            return many >= least && (markAt(file, place) & lowest) == 0;
        }
    }

    /** A row of bytes that the house keeps once, whoever's links hold it. */
    private static final class Chunk {
        private final int[] cells;
        final Chunk keptBefore;

        Chunk(ByteFile file, int start, int many, Chunk keptBefore) {
            this.keptBefore = keptBefore;
            cells = new int[Math.max(many, 0)];
            for (int i = 0; i < cells.length; i++) {
                cells[i] = file.byteAt(start + i);
            }
        }

        int size() {
            return cells.length;
        }

        int byteAt(int place) {
            return place >= 0 && place < cells.length ? cells[place] : 0;
        }

        boolean isRun(ByteFile file, int start, int many) {
            if (many != cells.length || start < 0 || start > file.cells.length - many) {
                return false;
            }
            for (int i = 0; i < cells.length; i++) {
                if (cells[i] != file.cells[start + i]) {
                    return false;
                }
            }
            return true;
        }

        long foldedInto(long digest) {
            long folded = digest;
            for (int i = 0; i < cells.length; i++) {
                folded = foldIn(folded, cells[i]);
            }
            return folded;
        }
    }

    /** Chunks in order; a file has no more chunks than bytes, so none is ever left out. */
    private static final class ChunkRow {
        private final Chunk[] chunks = new Chunk[MOST_BYTES];
        int count = 0;

        void add(Chunk chunk) {
            if (count >= 0 && count < chunks.length) {
                chunks[count] = chunk;
                count++;
            }
        }

        Chunk chunkAt(int place) {
            return place >= 0 && place < count && place < chunks.length ? chunks[place] : null;
        }

        boolean hasAheadOf(int end, Chunk chunk) {
            for (int i = 0; i < end && i < count && i < chunks.length; i++) {
                if (chunks[i] == chunk) {
                    return true;
                }
            }
            return false;
        }

        boolean has(Chunk chunk) {
            return hasAheadOf(count, chunk);
        }

        boolean hasRun(ByteFile file, int start, int many) {
            for (int i = 0; i < count; i++) {
                Chunk chunk = chunkAt(i);
                if (chunk != null && chunk.isRun(file, start, many)) {
                    return true;
                }
            }
            return false;
        }

        int byteCount() {
            int sum = 0;
            for (int i = 0; i < count; i++) {
                Chunk chunk = chunkAt(i);
                sum += chunk == null ? 0 : chunk.size();
            }
            return sum;
        }

        int unlikeByteCount() {
            int sum = 0;
            for (int i = 0; i < count; i++) {
                Chunk chunk = chunkAt(i);
                if (chunk != null && !hasAheadOf(i, chunk)) {
                    sum += chunk.size();
                }
            }
            return sum;
        }

        long fingerprint() {
            long digest = 0L;
            for (int i = 0; i < count; i++) {
                Chunk chunk = chunkAt(i);
                digest = chunk == null ? digest : chunk.foldedInto(digest);
            }
            return digest;
        }
    }

    /** What a client got in a night: a base, or a difference that stands on an earlier link. */
    private static final class Link {
        final Link earlier;
        final ChunkRow row = new ChunkRow();
        final ChunkRow holds = new ChunkRow();

        Link(Link earlier) {
            this.earlier = earlier;
        }

        void add(Chunk chunk) {
            row.add(chunk);
            if (!chainHolds(chunk)) {
                holds.add(chunk);
            }
        }

        boolean chainHolds(Chunk chunk) {
            for (Link link = this; link != null; link = link.earlier) {
                if (link.holds.has(chunk)) {
                    return true;
                }
            }
            return false;
        }

        boolean chainHoldsRun(ByteFile file, int start, int many) {
            for (Link link = this; link != null; link = link.earlier) {
                if (link.holds.hasRun(file, start, many)) {
                    return true;
                }
            }
            return false;
        }

        int differencesUpToHere() {
            int sum = 0;
            for (Link link = earlier; link != null; link = link.earlier) {
                sum++;
            }
            return sum;
        }

        int linkBytes() {
            return row.count + holds.byteCount();
        }

        /** Only links ahead of a day's own count: those behind hold no chunk that its chain had. */
        int linksToMount() {
            int sum = 1;
            for (Link link = earlier; link != null; link = link.earlier) {
                if (link.holdsSomeOf(row)) {
                    sum++;
                }
            }
            return sum;
        }

        private boolean holdsSomeOf(ChunkRow wanted) {
            for (int i = 0; i < wanted.count; i++) {
                if (holds.has(wanted.chunkAt(i))) {
                    return true;
                }
            }
            return false;
        }

        int bytesToRead() {
            return row.count + row.unlikeByteCount();
        }

        long fingerprintFromChain() {
            long digest = 0L;
            for (int i = 0; i < row.count; i++) {
                Chunk chunk = row.chunkAt(i);
                if (chunk != null && chainHolds(chunk)) {
                    digest = chunk.foldedInto(digest);
                }
            }
            return digest;
        }
    }

    /** All unlike chunks that links hold. */
    private static final class House {
        private Chunk latest = null;
        int kept = 0;

        /** Makes the link of a file that was just cut: a base, where there is no earlier link. */
        Link linkFor(ByteFile file, Link earlier) {
            Link link = new Link(earlier);
            for (int part = 0; part < file.parts; part++) {
                int start = file.partEnd(part - 1);
                link.add(keep(file, start, file.partEnd(part) - start));
            }
            return link;
        }

        private Chunk keep(ByteFile file, int start, int many) {
            for (Chunk chunk = latest; chunk != null; chunk = chunk.keptBefore) {
                if (chunk.isRun(file, start, many)) {
                    return chunk;
                }
            }
            Chunk added = new Chunk(file, start, many, latest);
            latest = added;
            kept++;
            return added;
        }
    }

    private static final class Client {
        final ByteFile file = new ByteFile();
        private final Link[] links = new Link[MOST_NIGHTS];
        Link latest = null;
        int bid = 0;
        int bound = 5;
        int cheap = 0;
        int promised = 60;
        int coin = 0;
        int paid = 0;
        int owed = 0;
        boolean waits = false;
        int gets = NOTHING;
        int price = 0;

        Link linkAt(int night) {
            return night >= 0 && night < links.length ? links[night] : null;
        }

        void addLink(int night, Link link) {
            if (night >= 0 && night < links.length) {
                links[night] = link;
                latest = link;
            }
        }

        int latestDayUpTo(int night) {
            for (int i = Math.min(night, links.length - 1); i >= 0; i--) {
                if (links[i] != null) {
                    return i;
                }
            }
            return -1;
        }

        private boolean wantsBase(int reserve) {
            if (latest == null) {
                return true;
            }
            return latest.differencesUpToHere() >= bound && reserve <= cheap;
        }

        private boolean wantsDifference() {
            return latest != null && !file.isCutAs(latest.row);
        }

        boolean asks(int reserve) {
            return bid > 0 && bid >= reserve && (wantsBase(reserve) || wantsDifference());
        }

        /** Settles what this client gets, and tells how much of the room that is left it takes. */
        int takeTurn(int left, int reserve) {
            if (wantsBase(reserve)) {
                int size = file.linkBytes(null);
                if (size <= left) {
                    gets = BASE;
                    return size;
                }
            }
            if (wantsDifference()) {
                int size = file.linkBytes(latest);
                if (size <= left) {
                    gets = DIFFERENCE;
                    return size;
                }
            }
            return 0;
        }

        int payFor(float minutes) {
            int begun = (int) minutes;
            if ((float) begun < minutes) {
                begun++;
            }
            return Math.max(begun - promised, 0) * coin;
        }
    }

    /** Sells the room of a night; its outcome stands in the clients, and nothing is served yet. */
    private static final class Market {
        private final Client[] turns = new Client[CLIENTS];
        int room = 200;
        int reserve = 1;

        void hold(Client[] clients, Marks marks) {
            for (int i = 0; i < clients.length; i++) {
                Client client = clients[i];
                if (client != null) {
                    marks.cutUp(client.file);
                    client.gets = NOTHING;
                    client.waits = client.asks(reserve);
                }
            }
            int left = room;
            for (int i = 0; i < turns.length; i++) {
                Client next = nextInTurn(clients);
                turns[i] = next;
                if (next != null) {
                    next.waits = false;
                    left -= next.takeTurn(left, reserve);
                }
            }
            setPrices();
        }

        private static Client nextInTurn(Client[] clients) {
            Client next = null;
            for (int i = 0; i < clients.length; i++) {
                Client client = clients[i];
                if (client != null && client.waits && (next == null || client.bid > next.bid)) {
                    next = client;
                }
            }
            return next;
        }

        /** From the last turn on, so that all who were not served behind a turn are known at it. */
        private void setPrices() {
            int price = reserve;
            for (int i = turns.length - 1; i >= 0; i--) {
                Client client = turns[i];
                if (client == null) {
                    continue;
                }
                if (client.gets == NOTHING) {
                    price = Math.max(price, client.bid);
                } else {
                    client.price = price;
                }
            }
        }
    }

    /** How long it takes to bring a day back. */
    private static final class Recovery {
        int mount = 5;
        int speed = 4;

        float minutesFor(Link day) {
            float mounting = (float) (mount * day.linksToMount());
            return mounting + (float) day.bytesToRead() / (float) Math.max(speed, 1);
        }
    }
}
