/** Promises 14 to 21: nights whose bytes are sold by bids. */
public final class MarketTest {

    private static final int[] BAD_CLIENTS = {-1, 4, Integer.MIN_VALUE, Integer.MAX_VALUE};

    public static void main(String[] args) {
        setsNights();
        takesBids();
        setsChains();
        tellsBytesOfBases();
        tellsBytesOfDifferences();
        wantsBases();
        wantsDifferences();
        wouldChangesNothing();
        servesByFallingBids();
        servesEqualBidsByRisingClients();
        laterTurnsMayFitWhereEarlierDoNot();
        paysTheGreatestBidBehind();
        paysAtLeastTheReserve();
        asksThoughNothingIsLeft();
        takesADifferenceWhereTheBaseDoesNotFit();
        countsNights();
        Check.close("MarketTest");
    }

    /** A house whose chunks have this many bytes each, but for the last ones of files. */
    private static DeltaNights houseOfChunks(int bytes) {
        DeltaNights house = new DeltaNights();
        house.setMarks(0, bytes, bytes);
        return house;
    }

    private static void setsNights() {
        DeltaNights house = houseOfChunks(1);
        Check.write(house, 0, 1, 2, 3, 4, 5);
        house.bid(0, 50);
        int[][] bad = {{501, 0}, {-1, 0}, {0, 51}, {0, -1}, {Integer.MAX_VALUE, 0}, {0, Integer.MIN_VALUE}};
        house.setNight(10, 1);
        for (int[] night : bad) {
            Check.dueNoClient("setNight(" + night[0] + ", " + night[1] + ")",
                    () -> house.setNight(night[0], night[1]));
            Check.due("would after a refused setNight", house.would(0), 1);
        }
        house.setNight(9, 1);
        Check.due("a byte too many", house.would(0), 0);
        house.setNight(500, 50);
        Check.due("a bid as the reserve", house.would(0), 1);
        house.bid(0, 49);
        Check.due("a bid below the reserve", house.would(0), 0);
        house.setNight(0, 0);
        Check.due("no room", house.would(0), 0);
        Check.due("night()", house.night(), 0);
        house.setNight(500, 0);
        house.bid(0, 0);
        Check.due("a bid of 0 with a reserve of 0", house.would(0), 0);
        house.bid(0, 1);
        Check.due("a bid of 1 with a reserve of 0", house.would(0), 1);

        // The room of the document at first: 200.
        DeltaNights first = houseOfChunks(1);
        for (int client = 0; client < 3; client++) {
            for (int i = 0; i < 48; i++) {
                first.put(client, i, i);
            }
            first.bid(client, 3 - client);
        }
        first.cut(2, 4, 44);
        Check.due("192 of 200 bytes, and 8 more", first.night(), 3);
        Check.due("the last one is served", first.got(2, 0), 1);
        first.setChain(0, 0, 1);
        first.setChain(1, 0, 1);
        first.setChain(2, 0, 1);
        first.put(2, 0, 7);
        Check.due("192 of 200 bytes, and 10 more", first.would(2), 2);
        Check.due("the first one", first.would(0), 1);

        // 96 + 96 + 8 are 200 bytes; a chunk once more is one byte more, and does not fit.
        for (int last = 4; last <= 5; last++) {
            DeltaNights full = houseOfChunks(1);
            for (int client = 0; client < 2; client++) {
                for (int i = 0; i < 48; i++) {
                    full.put(client, i, i);
                }
                full.bid(client, 9);
            }
            for (int i = 0; i < last; i++) {
                full.put(2, i, Math.min(i, 3));
            }
            full.bid(2, 1);
            Check.due("the room is 200 at first, " + last, full.would(2), last == 4 ? 1 : 0);
        }
    }

    private static void takesBids() {
        DeltaNights house = new DeltaNights();
        Check.due("bid(1, 7)", house.bid(1, 7), 0);
        Check.due("bid(1, 100)", house.bid(1, 100), 7);
        for (int client : BAD_CLIENTS) {
            Check.dueNoClient("bid, client " + client, () -> house.bid(client, 1));
        }
        Check.dueNoClient("bid(1, 101)", () -> house.bid(1, 101));
        Check.dueNoClient("bid(1, -1)", () -> house.bid(1, -1));
        Check.due("bid(1, 0)", house.bid(1, 0), 100);
        Check.due("bid(0, 0)", house.bid(0, 0), 0);
        house.bid(2, 5);
        Check.due("night with one bid", house.night(), 1);
        Check.due("the bid stays", house.bid(2, 5), 5);
    }

    private static void setsChains() {
        DeltaNights house = houseOfChunks(1);
        Check.write(house, 0, 1);
        house.bid(0, 9);
        house.night();
        Check.due("nothing new", house.would(0), 0);
        house.setChain(0, 0, 1);
        Check.due("bound 0, cheap 1, reserve 1", house.would(0), 1);
        int[][] bad = {{0, 31, 0}, {0, -1, 0}, {0, 0, 51}, {0, 0, -1}, {4, 1, 1}, {-1, 1, 1}};
        for (int[] chain : bad) {
            Check.dueNoClient("setChain(" + chain[0] + ", " + chain[1] + ", " + chain[2] + ")",
                    () -> house.setChain(chain[0], chain[1], chain[2]));
            Check.due("would after a refused setChain", house.would(0), 1);
        }
        house.setChain(0, 0, 0);
        Check.due("cheap below the reserve", house.would(0), 0);
        house.setChain(0, 30, 50);
        Check.due("a bound above the differences", house.would(0), 0);
        Check.due("another client", house.would(1), 0);
    }

    private static void tellsBytesOfBases() {
        DeltaNights house = houseOfChunks(2);
        Check.due("forBase of an empty file", house.forBase(0), 0);
        Check.write(house, 0, 1, 2, 3, 4, 1, 2, 1);
        Check.due("forBase with a chunk twice", house.forBase(0), 4 + 5);
        house.set(0, 3, 5);
        Check.due("forBase", house.forBase(0), 4 + 5);
        house.set(0, 4, 6);
        Check.due("forBase of unlike chunks", house.forBase(0), 4 + 7);
        house.bid(0, 5);
        house.night();
        Check.due("forBase with a chain", house.forBase(0), 4 + 7);
        for (int client : BAD_CLIENTS) {
            Check.dueNoClient("forBase", () -> house.forBase(client));
        }
    }

    private static void tellsBytesOfDifferences() {
        DeltaNights house = houseOfChunks(2);
        Check.write(house, 0, 1, 2, 3, 4);
        house.bid(0, 5);
        Check.dueNoState("forDifference without a chain", () -> house.forDifference(0));
        for (int client : BAD_CLIENTS) {
            Check.dueNoClient("forDifference", () -> house.forDifference(client));
        }
        house.night();
        Check.due("nothing new", house.forDifference(0), 2);
        house.copy(0, 0, 2, 0);
        Check.due("a chunk that the chain holds", house.forDifference(0), 3);
        Check.write(house, 0, 9, 8, 9, 8, 9);
        Check.due("a new chunk twice, and another", house.forDifference(0), 6 + 3);
        house.night();
        Check.due("held by the difference", house.forDifference(0), 6);
        Check.write(house, 1, 1, 2);
        Check.dueNoState("another client's chain", () -> house.forDifference(1));
        house.bid(1, 5);
        house.night();
        Check.write(house, 1, 3, 4);
        Check.due("chunks of another client's chain", house.forDifference(1), 2 + 2);

        // A base anew begins a chain, and what only the old chain held is not held any more.
        house.cut(0, 0, 9);
        house.setChain(0, 0, 50);
        house.night();
        Check.write(house, 0, 1, 2);
        Check.due("held by the old chain alone", house.forDifference(0), 2 + 2);
    }

    private static void wantsBases() {
        DeltaNights house = houseOfChunks(1);
        house.bid(0, 9);
        Check.due("an empty file, no chain", house.would(0), 1);
        house.setNight(200, 5);
        Check.due("no chain, not cheap", house.would(0), 1);
        house.night();
        house.setChain(0, 2, 5);
        for (int i = 0; i < 2; i++) {
            Check.due("no more of the same", house.would(0), 0);
            house.put(0, 0, i);
            Check.due("a difference below the bound", house.would(0), 2);
            house.night();
        }
        Check.due("two differences reach the bound", house.would(0), 1);
        house.setChain(0, 3, 5);
        Check.due("and not a bound of three", house.would(0), 0);
        house.setChain(0, 2, 4);
        Check.due("a reserve above cheap", house.would(0), 0);
        house.put(0, 0, 7);
        Check.due("a reserve above cheap, a new row", house.would(0), 2);
        house.setChain(0, 1, 5);
        Check.due("more differences than the bound", house.would(0), 1);
        house.night();
        Check.due("a chain anew", house.chain(0), 0);

        // The bound of the document at first: 5; and cheap is 0.
        DeltaNights first = houseOfChunks(1);
        first.setNight(200, 0);
        first.bid(0, 1);
        for (int i = 0; i < 6; i++) {
            Check.due("the bound at first", first.would(0), i == 0 ? 1 : 2);
            first.night();
            first.put(0, 0, i);
        }
        Check.due("five differences", first.chain(0), 5);
        Check.due("a base behind five differences", first.would(0), 1);
        first.setNight(200, 1);
        Check.due("cheap is 0 at first", first.would(0), 2);
    }

    private static void wantsDifferences() {
        DeltaNights house = houseOfChunks(2);
        Check.write(house, 0, 1, 2, 1, 2, 3);
        house.bid(0, 9);
        house.night();
        house.set(0, 0, 9);
        Check.due("another chunk", house.would(0), 2);
        house.set(0, 0, 1);
        Check.due("the row as before", house.would(0), 0);
        house.put(0, 5, 1);
        Check.due("a longer chunk", house.would(0), 2);
        house.cut(0, 5, 1);
        house.cut(0, 0, 2);
        Check.due("a chunk less", house.would(0), 2);
        house.cut(0, 0, 3);
        Check.due("no chunk", house.would(0), 2);
        Check.due("night()", house.night(), 1);
        Check.due("bytes(0, 1)", house.bytes(0, 1), 0);
        Check.write(house, 0, 3);
        Check.due("a row that is not the latest day's", house.would(0), 2);
        house.setNight(0, 1);
        Check.due("a difference without room", house.would(0), 0);
        house.setNight(1, 1);
        Check.due("a difference with room", house.would(0), 2);
        house.setNight(200, 10);
        Check.due("a bid below the reserve", house.would(0), 0);

        DeltaNights full = houseOfChunks(5);
        for (int i = 0; i < 48; i++) {
            full.put(0, i, i);
        }
        full.bid(0, 1);
        full.night();
        Check.due("the row of a full file as before", full.would(0), 0);
        Check.due("its difference holds nothing", full.forDifference(0), 10);
        full.set(0, 47, 99);
        Check.due("the last byte of a full file", full.would(0), 2);
        Check.due("its difference holds one chunk", full.forDifference(0), 10 + 3);
    }

    private static void wouldChangesNothing() {
        DeltaNights house = houseOfChunks(1);
        Check.write(house, 0, 1, 2);
        house.bid(0, 9);
        for (int i = 0; i < 3; i++) {
            Check.due("would(0)", house.would(0), 1);
        }
        Check.due("nights()", house.nights(), 0);
        Check.due("store()", house.store(), 0);
        Check.due("paid(0)", house.paid(0), 0);
        Check.due("chain(0)", house.chain(0), -1);
        for (int client : BAD_CLIENTS) {
            Check.dueNoClient("would", () -> house.would(client));
        }
    }

    private static void servesByFallingBids() {
        DeltaNights house = houseOfChunks(1);
        for (int client = 0; client < 4; client++) {
            Check.write(house, client, 1, 2, 3);
        }
        int[] bids = {5, 20, 7, 6};
        for (int client = 0; client < 4; client++) {
            house.bid(client, bids[client]);
        }
        house.setNight(17, 1);
        Check.due("would(0)", house.would(0), 0);
        Check.due("would(1)", house.would(1), 1);
        Check.due("would(2)", house.would(2), 1);
        Check.due("would(3)", house.would(3), 0);
        Check.due("night()", house.night(), 2);
        Check.due("got(0, 0)", house.got(0, 0), 0);
        Check.due("got(1, 0)", house.got(1, 0), 1);
        Check.due("got(2, 0)", house.got(2, 0), 1);
        Check.due("got(3, 0)", house.got(3, 0), 0);
        Check.due("paid(0)", house.paid(0), 0);
        Check.due("paid(1)", house.paid(1), 6 * 6);
        Check.due("paid(2)", house.paid(2), 6 * 6);
        Check.due("purse()", house.purse(), 72);
    }

    private static void servesEqualBidsByRisingClients() {
        DeltaNights house = houseOfChunks(1);
        for (int client = 0; client < 4; client++) {
            Check.write(house, client, 1, 2, 3);
            house.bid(client, 8);
        }
        house.setNight(12, 1);
        Check.due("night()", house.night(), 2);
        Check.due("got(0, 0)", house.got(0, 0), 1);
        Check.due("got(1, 0)", house.got(1, 0), 1);
        Check.due("got(2, 0)", house.got(2, 0), 0);
        Check.due("paid(0), the same bid", house.paid(0), 48);
        Check.due("night()", house.night(), 2);
        Check.due("got(2, 1)", house.got(2, 1), 1);
        Check.due("got(3, 1)", house.got(3, 1), 1);
        Check.due("paid(2), nobody behind", house.paid(2), 6);
    }

    private static void laterTurnsMayFitWhereEarlierDoNot() {
        DeltaNights house = houseOfChunks(1);
        Check.write(house, 0, 1, 2, 3, 4, 5, 6);
        Check.write(house, 1, 1);
        house.bid(0, 30);
        house.bid(1, 10);
        house.setNight(4, 2);
        Check.due("would(0)", house.would(0), 0);
        Check.due("would(1)", house.would(1), 1);
        Check.due("night()", house.night(), 1);
        Check.due("paid(1): who was not served had its turn ahead", house.paid(1), 2 * 2);
        house.put(1, 0, 2);
        house.setNight(3, 2);
        Check.due("who is not served takes no room", house.would(1), 2);
    }

    /** Bids 9, 7, 5, 3: the second and the fourth are too large, so the first pays 7, the third 3. */
    private static void paysTheGreatestBidBehind() {
        DeltaNights house = houseOfChunks(1);
        Check.write(house, 3, 1, 2);
        Check.write(house, 1, 1, 2, 3, 4, 5);
        Check.write(house, 2, 1, 2);
        Check.write(house, 0, 1, 2, 3);
        house.bid(3, 9);
        house.bid(1, 7);
        house.bid(2, 5);
        house.bid(0, 3);
        house.setNight(10, 1);
        Check.due("night()", house.night(), 2);
        Check.due("paid(3)", house.paid(3), 4 * 7);
        Check.due("paid(1)", house.paid(1), 0);
        Check.due("paid(2)", house.paid(2), 4 * 3);
        Check.due("paid(0)", house.paid(0), 0);
        Check.due("purse()", house.purse(), 40);
        house.setNight(10, 4);
        Check.due("night()", house.night(), 1);
        Check.due("paid(1): the others want nothing, or bid below the reserve", house.paid(1), 10 * 4);
    }

    private static void paysAtLeastTheReserve() {
        DeltaNights house = houseOfChunks(1);
        Check.write(house, 0, 1, 2);
        Check.write(house, 1, 1, 2);
        house.bid(0, 50);
        house.bid(1, 8);
        house.setNight(4, 8);
        house.night();
        Check.due("a bid as the reserve", house.paid(0), 32);
        house.setNight(100, 0);
        house.night();
        Check.due("a reserve of 0", house.paid(1), 0);
        Check.due("and still a link", house.got(1, 1), 1);
        house.put(0, 0, 9);
        house.setNight(4, 50);
        house.night();
        Check.due("the reserve as the bid", house.paid(0), 32 + 4 * 50);
    }

    /** Who wants a base for which there is no room, and no difference, has asked all the same. */
    private static void asksThoughNothingIsLeft() {
        DeltaNights house = houseOfChunks(1);
        Check.write(house, 0, 1, 2, 3, 4);
        house.bid(0, 6);
        house.night();
        Check.due("paid(0)", house.paid(0), 8);
        house.setChain(0, 0, 50);
        Check.write(house, 1, 1);
        house.bid(1, 10);
        house.setNight(9, 1);
        Check.due("would(0)", house.would(0), 0);
        Check.due("night()", house.night(), 1);
        Check.due("paid(1): client 0 asked", house.paid(1), 2 * 6);
        house.put(1, 0, 2);
        house.setChain(0, 1, 50);
        house.night();
        Check.due("paid(1): client 0 did not ask", house.paid(1), 2 * 6 + 3);
    }

    private static void takesADifferenceWhereTheBaseDoesNotFit() {
        DeltaNights house = houseOfChunks(1);
        Check.write(house, 0, 1, 2, 3, 4);
        house.bid(0, 6);
        house.night();
        house.setChain(0, 0, 50);
        house.put(0, 0, 9);
        house.setNight(10, 1);
        Check.due("the base fits", house.would(0), 1);
        house.setNight(9, 1);
        Check.due("the base does not fit", house.would(0), 2);
        house.setNight(6, 1);
        Check.due("the difference fits", house.would(0), 2);
        house.setNight(5, 1);
        Check.due("the difference does not fit", house.would(0), 0);

        // The room that is left when its turn comes is what counts.
        Check.write(house, 1, 7);
        house.bid(1, 7);
        house.setNight(11, 1);
        Check.due("a base of 10 bytes in 9", house.would(0), 2);
        Check.due("night()", house.night(), 2);
        Check.due("got(0, 1)", house.got(0, 1), 2);
        Check.due("chain(0)", house.chain(0), 1);

        DeltaNights fresh = houseOfChunks(1);
        Check.write(fresh, 0, 1, 2);
        fresh.bid(0, 6);
        fresh.setNight(3, 1);
        Check.due("no chain, no difference", fresh.would(0), 0);
        Check.due("night()", fresh.night(), 0);
    }

    private static void countsNights() {
        DeltaNights house = houseOfChunks(1);
        house.bid(0, 2);
        for (int night = 0; night < 60; night++) {
            Check.due("nights()", house.nights(), night);
            house.put(0, 0, night);
            if (house.length(0) > 40) {
                house.cut(0, 1, 40);
            }
            Check.due("night() " + night, house.night(), 1);
        }
        Check.due("nights()", house.nights(), 60);
        Check.dueNoState("night 60", house::night);
        Check.due("nights() after a refused night", house.nights(), 60);
        int paid = house.paid(0);
        Check.due("nothing new", house.would(0), 0);
        house.put(0, 0, 99);
        Check.due("would(0) behind the last night", house.would(0), 2);
        Check.dueNoState("night 60 again", house::night);
        Check.due("nothing is served", house.paid(0), paid);
        Check.due("got(0, 59)", house.got(0, 59), 2);
        Check.dueNoPlace("got(0, 60)", () -> house.got(0, 60));
        Check.due("dayOf(0, 59)", house.dayOf(0, 59), 59);
        Check.due("chain(0)", house.chain(0), 59);
    }
}
