/** The edges that promises 22 to 30 name, and 'Links, chains, days' in the terms. */
final class EdgesOfLinks {

    private static final int[] BAD_CLIENTS = EdgesOfFiles.BAD_CLIENTS;

    private EdgesOfLinks() {
    }

    static void check() {
        nightsAreNumbered();
        linksHoldChunks();
        chainsHoldChunks();
        bytesOfLinks();
        got();
        dayOf();
        chain();
        bytes();
        held();
        lengthOf();
        digestOf();
        digestByChunks();
        restore();
        refusedRestore();
    }

    /** A house of chunks of one byte; client 0 asks. */
    private static DeltaNights house() {
        DeltaNights house = Scene.ofChunks(1);
        house.setNight(500, 1);
        house.bid(0, 1);
        return house;
    }

    /** Client 0 gets links in the nights 1 and 3 of five; client 3 gets one in the last night. */
    private static DeltaNights houseOfFiveNights() {
        DeltaNights house = house();
        house.bid(0, 0);
        house.night();
        house.bid(0, 1);
        Check.write(house, 0, 10, 11);
        house.night();
        house.night();
        house.put(0, 2, 12);
        house.night();
        house.bid(3, 1);
        house.put(3, 0, 255);
        house.night();
        return house;
    }

    /** The exceptions of a call of a client and a night, in each scene. */
    private static void dueRefusals(int promise, String name, boolean state, String whenNoLink) {
        Edge.of(promise, "Throws `IllegalArgumentException` if client is out of range");
        for (int client : BAD_CLIENTS) {
            for (int night : new int[] {0, -1, 4, 5, 59, 60}) {
                Scene.allRefuse(Call.ARGUMENT, name, client, night);
            }
        }

        Edge.of(promise, "Throws `IndexOutOfBoundsException` if no such night has gone by");
        for (int client = 0; client < 4; client++) {
            for (int night : new int[] {-1, 60, 61, Integer.MIN_VALUE, Integer.MAX_VALUE}) {
                Scene.allRefuse(Call.INDEX, name, client, night);
            }
            Scene.FRESH.refuses(Call.INDEX, name, client, 0);
            Scene.BUSY.refuses(Call.INDEX, name, client, 5);
        }

        if (state) {
            Edge.of(promise, whenNoLink);
            for (int client = 0; client < 4; client++) {
                Scene.BUSY.refuses(Call.STATE, name, client, 2);
                Scene.BUSY.refuses(Call.STATE, name, client, 4);
            }
            Scene.BUSY.refuses(Call.STATE, name, 3, 0);
            Scene.FULL.refuses(Call.STATE, name, 2, 0);
            Scene.FULL.refuses(Call.STATE, name, 2, 59);
            Scene.FULL.refuses(Call.STATE, name, 3, 1);
        }
    }

    private static void nightsAreNumbered() {
        Edge.ofTerms("Nights are numbered from 0.");
        DeltaNights house = house();
        for (int night = 0; night < 60; night++) {
            Check.dueText("got ahead of night " + night, Call.answer(house, "got", 0, night), Call.INDEX);
            house.night();
            Check.due("dayOf(0, " + night + ")", house.dayOf(0, night), 0);
        }
        Check.due("got(0, 0)", house.got(0, 0), 1);
        Check.due("got(0, 59)", house.got(0, 59), 0);
    }

    private static void linksHoldChunks() {
        Edge.ofTerms("A client that is served in a night gets a link of that night: the row of chunks of its"
                + " file as it is then, which is its day of that night; and the link holds some of these"
                + " chunks.");
        DeltaNights house = house();
        Check.write(house, 0, 1, 2);
        house.night();
        house.set(0, 0, 9);
        Check.due("the file as it was then", house.digestOf(0, 0), 1 << 5 ^ 2);
        house.night();
        Check.due("the day of the next night", house.digestOf(0, 1), 9 << 5 ^ 2);
        Check.due("and that of the first one as before", house.digestOf(0, 0), 1 << 5 ^ 2);
        Check.due("some of these chunks", house.held(0, 1), 1);
        house.night();
        Check.dueText("no link of a night without service", Call.answer(house, "held", 0, 2), Call.STATE);
        house.cut(0, 0, 2);
        house.night();
        Check.due("a row of no chunk", house.lengthOf(0, 3), 0);
        Check.due("it holds none", house.held(0, 3), 0);
    }

    private static void chainsHoldChunks() {
        Edge.ofTerms("A base holds each of them once, and begins a chain; a difference holds each of them"
                + " once that no link of the client's latest chain holds, and is added to that chain.");
        DeltaNights house = house();
        Check.write(house, 0, 1, 2, 1, 1, 2);
        house.night();
        Check.due("a base holds each once", house.held(0, 0), 2);
        Check.due("and begins a chain", house.chain(0), 0);
        Check.write(house, 0, 3, 3, 3);
        house.night();
        Check.due("a difference holds each once", house.held(0, 1), 1);
        Check.due("and is added to the chain", house.chain(0), 1);
        house.cut(0, 0, 5);
        house.night();
        Check.due("held by a difference", house.held(0, 2), 0);
        Check.write(house, 0, 1, 4);
        house.night();
        Check.due("held by the base", house.held(0, 3), 1);
        Check.due("three differences", house.chain(0), 3);

        house.setChain(0, 3, 1);
        house.night();
        Check.due("a base anew holds what the old chain holds", house.held(0, 4), 3);
        Check.due("and begins a chain", house.chain(0), 0);
        house.put(0, 0, 2);
        house.night();
        Check.due("held by the old chain alone", house.held(0, 5), 1);

        house.copy(0, 0, house.length(0), 1);
        house.bid(1, 1);
        house.night();
        Check.due("held by another client's chain alone", house.held(1, 6), 4);
        house.put(1, 0, 99);
        house.night();
        house.put(0, 0, 99);
        house.night();
        Check.due("held by another client's chain alone", house.held(0, 8), 1);
    }

    private static void bytesOfLinks() {
        Edge.ofTerms("The bytes of a link are one for each chunk of its row, and those of all chunks that it"
                + " holds.");
        DeltaNights house = house();
        house.night();
        Check.due("no chunk", house.bytes(0, 0), 0);
        for (int i = 0; i < 48; i++) {
            house.put(0, i, i);
        }
        house.night();
        Check.due("48 chunks, and holds all", house.bytes(0, 1), 96);
        house.put(0, 46, house.cut(0, 47, 1));
        house.night();
        Check.due("48 chunks in another order, and holds none", house.bytes(0, 2), 48);
        for (int i = 0; i < 48; i++) {
            house.set(0, i, 200);
        }
        house.night();
        Check.due("48 chunks, and holds one", house.bytes(0, 3), 49);
        house.setMarks(0, 16, 16);
        house.night();
        Check.due("3 chunks, and holds one of 16 bytes", house.bytes(0, 4), 3 + 16);
    }

    private static void got() {
        Edge.of(22, "Returns what a client got in a night: 0 nothing, 1 a base, 2 a difference.");
        DeltaNights house = houseOfFiveNights();
        int[] got = {0, 1, 0, 2, 0};
        for (int night = 0; night < 5; night++) {
            Check.due("got(0, " + night + ")", house.got(0, night), got[night]);
            Check.due("got(1, " + night + ")", house.got(1, night), 0);
        }
        DeltaNights full = Scene.FULL.make();
        Check.due("the first night", full.got(0, 0), 1);
        Check.due("the last night", full.got(0, 59), 2);

        Edge.of(22, "- `client`: 0 to 3");
        for (int client = 0; client < 4; client++) {
            Check.due("got(" + client + ", 4)", house.got(client, 4), client == 3 ? 1 : 0);
        }
        dueRefusals(22, "got", false, "");
    }

    private static void dayOf() {
        Edge.of(23, "Returns the night of the latest day that a client has up to a night, -1 if it has none.");
        DeltaNights house = houseOfFiveNights();
        int[] days = {-1, 1, 1, 3, 3};
        int[] last = {-1, -1, -1, -1, 4};
        for (int night = 0; night < 5; night++) {
            Check.due("dayOf(0, " + night + ")", house.dayOf(0, night), days[night]);
            Check.due("dayOf(2, " + night + ")", house.dayOf(2, night), -1);
            Check.due("dayOf(3, " + night + ")", house.dayOf(3, night), last[night]);
        }
        DeltaNights full = Scene.FULL.make();
        Check.due("the first night", full.dayOf(0, 0), 0);
        Check.due("the last night", full.dayOf(0, 59), 59);
        Check.due("a day of the first night, the last night", full.dayOf(3, 59), 0);

        Edge.of(23, "- `client`: 0 to 3");
        int[] latest = {3, -1, -1, 4};
        for (int client = 0; client < 4; client++) {
            Check.due("dayOf(" + client + ", 4)", house.dayOf(client, 4), latest[client]);
        }
        dueRefusals(23, "dayOf", false, "");
    }

    private static void chain() {
        Edge.of(24, "Returns how many differences the latest chain of a client has, -1 if it has no chain.");
        DeltaNights house = house();
        Check.due("no night", house.chain(0), -1);
        house.bid(0, 0);
        house.night();
        Check.due("no link", house.chain(0), -1);
        house.bid(0, 1);
        house.put(0, 0, 0);
        for (int night = 1; night < 60; night++) {
            house.night();
            Check.due("chain(0)", house.chain(0), night - 1);
            house.set(0, 0, night);
        }
        DeltaNights anew = house();
        anew.night();
        anew.put(0, 0, 1);
        anew.night();
        anew.setChain(0, 1, 1);
        anew.night();
        Check.due("the latest chain", anew.chain(0), 0);

        Edge.of(24, "- `client`: 0 to 3");
        DeltaNights five = houseOfFiveNights();
        int[] chains = {1, -1, -1, 0};
        for (int client = 0; client < 4; client++) {
            Check.due("chain(" + client + ")", five.chain(client), chains[client]);
        }

        Edge.of(24, "Throws `IllegalArgumentException` if client is out of range");
        for (int client : BAD_CLIENTS) {
            Scene.allRefuse(Call.ARGUMENT, "chain", client);
        }
    }

    private static void bytes() {
        Edge.of(25, "Returns the bytes of the link of a night.");
        DeltaNights house = houseOfFiveNights();
        Check.due("a base", house.bytes(0, 1), 4);
        Check.due("a difference", house.bytes(0, 3), 4);
        Check.due("the last night", house.bytes(3, 4), 2);
        DeltaNights empty = house();
        empty.night();
        Check.due("of no chunk", empty.bytes(0, 0), 0);

        Edge.of(25, "- `client`: 0 to 3");
        dueOfEachClient("bytes", 2, 4, 6, 8);
        dueRefusals(25, "bytes", true, "Throws `IllegalStateException` if the client got no link in it");
    }

    /** Each client has one link more of 1, 2, 3 and 4 chunks in night 0. */
    private static void dueOfEachClient(String name, int... want) {
        DeltaNights house = house();
        for (int client = 0; client < 4; client++) {
            house.bid(client, 1);
            for (int i = 0; i <= client; i++) {
                house.put(client, i, i);
            }
        }
        house.night();
        for (int client = 0; client < 4; client++) {
            Check.dueText(Call.told(name, client, 0), Call.answer(house, name, client, 0),
                    String.valueOf(want[client]));
        }
    }

    private static void held() {
        Edge.of(26, "Returns how many chunks the link of a night holds.");
        DeltaNights house = houseOfFiveNights();
        Check.due("a base", house.held(0, 1), 2);
        Check.due("a difference", house.held(0, 3), 1);
        Check.due("the last night", house.held(3, 4), 1);
        DeltaNights full = house();
        full.night();
        Check.due("none", full.held(0, 0), 0);
        for (int i = 0; i < 48; i++) {
            full.put(0, i, i);
        }
        full.night();
        Check.due("48", full.held(0, 1), 48);

        Edge.of(26, "- `client`: 0 to 3");
        dueOfEachClient("held", 1, 2, 3, 4);
        dueRefusals(26, "held", true, "Throws `IllegalStateException` if the client got no link in it");
    }

    private static void lengthOf() {
        Edge.of(27, "Returns how many bytes the file of a day had.");
        DeltaNights house = house();
        house.night();
        for (int i = 0; i < 48; i++) {
            house.put(0, i, i / 9);
        }
        house.night();
        house.cut(0, 1, 47);
        house.night();
        Check.due("an empty file", house.lengthOf(0, 0), 0);
        Check.due("a full file", house.lengthOf(0, 1), 48);
        Check.due("one byte", house.lengthOf(0, 2), 1);
        house.cut(0, 0, 1);
        Check.due("as it was then", house.lengthOf(0, 2), 1);

        Edge.of(27, "- `client`: 0 to 3");
        dueOfEachClient("lengthOf", 1, 2, 3, 4);
        dueRefusals(27, "lengthOf", true, "Throws `IllegalStateException` if the client has no day of it");
    }

    /** Rows whose chunks lie in many links: 60 nights, each with the digest of its file. */
    private static void dueDigests(String name) {
        DeltaNights house = house();
        String[] digests = new String[60];
        for (int night = 0; night < 60; night++) {
            if (night > 0) {
                house.put(0, night * 7 % (house.length(0) + 1), night * 5 % 256);
            }
            if (night % 29 == 28) {
                house.cut(0, 3, house.length(0) - 3);
            }
            digests[night] = String.valueOf(house.digest(0));
            house.night();
        }
        Check.due("chain(0)", house.chain(0), 59);
        house.cut(0, 0, house.length(0));
        for (int night = 0; night < 60; night++) {
            Check.dueText(Call.told(name, 0, night), Call.answer(house, name, 0, night), digests[night]);
        }
    }

    private static void digestOf() {
        Edge.of(28, "Returns the digest of the file of a day, brought back from the links of its chain.");
        DeltaNights house = house();
        house.night();
        Check.due("of no byte", house.digestOf(0, 0), 0);
        dueDigests("digestOf");

        Edge.of(28, "- `client`: 0 to 3");
        dueOfEachClient("digestOf", 0, 1, 32 ^ 2, 32 * 32 ^ 2 * 32 ^ 3);
        dueRefusals(28, "digestOf", true, "Throws `IllegalStateException` if the client has no day of it");
    }

    private static void digestByChunks() {
        Edge.of(29, "Returns the same, from the chunks of the house alone.");
        DeltaNights house = house();
        house.night();
        Check.due("of no byte", house.digestByChunks(0, 0), 0);
        dueDigests("digestByChunks");

        Edge.of(29, "- `client`: 0 to 3");
        dueOfEachClient("digestByChunks", 0, 1, 32 ^ 2, 32 * 32 ^ 2 * 32 ^ 3);
        dueRefusals(29, "digestByChunks", true, "Throws `IllegalStateException` if the client has no day of it");
    }

    private static void restore() {
        Edge.of(30, "Lets the file of a client become that of a day.");
        DeltaNights house = house();
        house.night();
        for (int i = 0; i < 48; i++) {
            house.put(0, i, i + 1);
        }
        house.night();
        Check.due("all of a full file go", house.restore(0, 0), 48);
        Check.dueFile("an empty day", house, 0);
        Check.due("and come", house.restore(0, 1), 48);
        for (int place = 0; place < 48; place++) {
            Check.due("at(0, " + place + ")", house.at(0, place), place + 1);
        }
        Check.dueText("the file is full again", Call.answer(house, "put", 0, 0, 1), Call.STATE);
        house.set(0, 0, 200);
        Check.due("the day is not the file", house.digestByChunks(0, 1) == house.digest(0) ? 1 : 0, 0);

        Edge.of(30, "- `client`: 0 to 3");
        dueOfEachClient("restore", 0, 0, 0, 0);
        DeltaNights last = houseOfFiveNights();
        last.set(3, 0, 7);
        last.set(0, 0, 7);
        Check.due("restore(3, 4)", last.restore(3, 4), 1);
        Check.dueFile("of this client", last, 3, 255);
        Check.dueFile("of no other one", last, 0, 7, 11, 12);

        Edge.of(30, "Returns how many places of the file have another byte than before, or one where there was"
                + " none, or none where there was one.");
        DeltaNights day = house();
        Check.write(day, 0, 0, 255, 0);
        day.night();
        Check.due("the same file", day.restore(0, 0), 0);
        day.set(0, 2, 1);
        Check.due("another byte at the last place", day.restore(0, 0), 1);
        day.set(0, 0, 1);
        Check.due("another byte at the first place", day.restore(0, 0), 1);
        day.cut(0, 2, 1);
        Check.due("a 0 where there was none", day.restore(0, 0), 1);
        day.put(0, 3, 0);
        Check.due("none where there was a 0", day.restore(0, 0), 1);
        day.cut(0, 0, 3);
        Check.due("all where there was none", day.restore(0, 0), 3);
        day.put(0, 0, 9);
        Check.due("9 0 255 0: three other bytes, and one too many", day.restore(0, 0), 4);
        Check.due("and then none", day.restore(0, 0), 0);
        for (int i = 3; i < 48; i++) {
            day.put(0, i, 0);
        }
        day.set(0, 0, 5);
        Check.due("one other byte, 45 too many", day.restore(0, 0), 46);
        Check.due("length(0)", day.length(0), 3);
    }

    private static void refusedRestore() {
        dueRefusals(30, "restore", true, "Throws `IllegalStateException` if the client has no day of it");
        DeltaNights house = houseOfFiveNights();
        house.set(0, 0, 99);
        for (int night : new int[] {-1, 0, 2, 4, 5}) {
            Call.answer(house, "restore", 0, night);
            Check.dueFile("after a refused restore of night " + night, house, 0, 99, 11, 12);
        }
    }
}
