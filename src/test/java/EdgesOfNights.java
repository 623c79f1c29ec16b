/** The edges that promises 14 to 21 name, and 'Nights' in the terms. */
final class EdgesOfNights {

    private static final int[] BAD_CLIENTS = EdgesOfFiles.BAD_CLIENTS;

    private EdgesOfNights() {
    }

    static void check() {
        settingsAtFirst();
        whoAsks();
        whoAsksInVain();
        whoWantsABase();
        whoWantsADifference();
        turns();
        whoIsServed();
        whatIsPaid();
        setNight();
        bid();
        setChain();
        forBase();
        forDifference();
        would();
        night();
        refusedNight();
        nights();
    }

    /** A house of chunks of one byte, whose clients have files of so many bytes, all unlike. */
    private static DeltaNights houseOf(int... bytes) {
        DeltaNights house = Scene.ofChunks(1);
        for (int client = 0; client < bytes.length; client++) {
            for (int i = 0; i < bytes[client]; i++) {
                house.put(client, i, client * 48 + i);
            }
        }
        return house;
    }

    private static void bids(DeltaNights house, int... bids) {
        for (int client = 0; client < bids.length; client++) {
            house.bid(client, bids[client]);
        }
    }

    private static void dueWould(String when, DeltaNights house, int... want) {
        for (int client = 0; client < want.length; client++) {
            Check.due(when + ": would(" + client + ")", house.would(client), want[client]);
        }
    }

    private static void duePaid(String when, DeltaNights house, int... want) {
        int sum = 0;
        for (int client = 0; client < want.length; client++) {
            Check.due(when + ": paid(" + client + ")", house.paid(client), want[client]);
            sum += want[client];
        }
        Check.due(when + ": purse()", house.purse(), sum);
    }

    private static void settingsAtFirst() {
        Edge.ofTerms("The next night has a room, 200 bytes at first, and a reserve, 1 at first; each client"
                + " has a bid, a price for a byte, 0 at first.");
        DeltaNights fits = houseOf(48, 48, 4);
        bids(fits, 9, 9, 9);
        dueWould("96, 96 and 8 bytes", fits, 1, 1, 1);
        DeltaNights tooMuch = houseOf(48, 48, 4);
        tooMuch.put(2, 4, 96);
        bids(tooMuch, 9, 9, 9);
        dueWould("96, 96 and a chunk of these once more", tooMuch, 1, 1, 0);
        DeltaNights reserve = houseOf(3);
        dueWould("no bid", reserve, 0, 0, 0, 0);
        bids(reserve, 1);
        dueWould("a bid of 1", reserve, 1, 0, 0, 0);
        reserve.night();
        duePaid("a reserve of 1", reserve, 6, 0, 0, 0);
        DeltaNights bids = new DeltaNights();
        for (int client = 0; client < 4; client++) {
            Check.due("the bid of " + client, bids.bid(client, 3), 0);
        }
    }

    private static void whoAsks() {
        Edge.ofTerms("A client asks, if its bid is above 0 and not below the reserve, and it wants a base or"
                + " a difference as told here; it has asked, and is not served, also if it wants a base for"
                + " which there is no room left, and no difference.");
        int[][] rows = {{0, 0, 0}, {1, 0, 1}, {1, 1, 1}, {1, 2, 0}, {49, 50, 0}, {50, 50, 1}, {100, 50, 1},
            {0, 1, 0}, {7, 8, 0}, {8, 8, 1}};
        for (int[] row : rows) {
            DeltaNights house = houseOf(2);
            house.bid(0, row[0]);
            house.setNight(200, row[1]);
            dueWould("a bid of " + row[0] + ", a reserve of " + row[1], house, row[2]);
        }
        // Client 1 bids below the reserve, so that client 0 pays just the reserve.
        DeltaNights house = houseOf(2, 2);
        bids(house, 9, 4);
        house.setNight(4, 5);
        house.night();
        duePaid("who bids below the reserve has not asked", house, 20, 0);
        // Client 1 wants nothing, so that client 0 pays just the reserve.
        DeltaNights quiet = houseOf(0, 2);
        bids(quiet, 0, 4);
        quiet.night();
        quiet.put(0, 0, 7);
        bids(quiet, 9, 8);
        quiet.setNight(2, 1);
        quiet.night();
        duePaid("who wants nothing has not asked", quiet, 2, 4);
    }

    private static void whoAsksInVain() {
        // Client 1 has its row already, and wants a base: of 4 bytes, where 3 are left, or 4.
        for (int left = 3; left <= 4; left++) {
            DeltaNights house = houseOf(2, 2);
            bids(house, 0, 7);
            house.night();
            house.setChain(1, 0, 50);
            bids(house, 9, 7);
            house.setNight(4 + left, 1);
            dueWould(left + " bytes left", house, 1, left - 3);
            Check.due("night()", house.night(), left - 2);
            duePaid(left + " bytes left", house, left == 3 ? 4 * 7 : 4, 4 + (left == 3 ? 0 : 4));
        }
        DeltaNights first = houseOf(2, 2);
        bids(first, 9, 7);
        first.setNight(7, 1);
        dueWould("no chain, no room for a base", first, 1, 0);
        first.night();
        duePaid("no chain, no room for a base", first, 4 * 7, 0);
    }

    /** Client 0 with a chain of so many differences; its latest row is that of its file. */
    private static DeltaNights houseOfChain(int differences) {
        DeltaNights house = houseOf(1);
        house.bid(0, 50);
        house.setChain(0, 30, 0);
        house.setNight(200, 50);
        house.night();
        for (int i = 0; i < differences; i++) {
            house.put(0, 0, 100 + i);
            house.night();
        }
        Check.due("chain(0)", house.chain(0), differences);
        return house;
    }

    private static void whoWantsABase() {
        Edge.ofTerms("It wants a base, if it has no chain, or if its latest chain has at least as many"
                + " differences as its bound tells, 5 at first, and the reserve is not above its cheap price,"
                + " 0 at first.");
        DeltaNights none = houseOf(0);
        bids(none, 50);
        none.setNight(0, 50);
        dueWould("no chain, an empty file, no room, a reserve above the cheap price", none, 1);
        for (int differences = 0; differences <= 2; differences++) {
            for (int bound = 0; bound <= 3; bound++) {
                for (int reserve = 6; reserve <= 8; reserve++) {
                    DeltaNights house = houseOfChain(differences);
                    house.setChain(0, bound, 7);
                    house.setNight(200, reserve);
                    boolean base = differences >= bound && reserve <= 7;
                    String when = differences + " of " + bound + ", a reserve of " + reserve;
                    dueWould(when, house, base ? 1 : 0);
                    house.put(0, 0, 99);
                    dueWould(when + ", another row", house, base ? 1 : 2);
                }
            }
        }
        atFirst();
        // A base anew begins a chain: its differences are counted from 0.
        DeltaNights anew = houseOfChain(3);
        anew.setChain(0, 1, 50);
        anew.night();
        Check.due("a base anew", anew.got(0, 4), 1);
        dueWould("the latest chain has no difference", anew, 0);
        anew.put(0, 0, 1);
        anew.night();
        dueWould("the latest chain has one difference", anew, 1);
    }

    private static void atFirst() {
        for (int reserve = 0; reserve <= 1; reserve++) {
            DeltaNights house = houseOf(1);
            bids(house, 5);
            house.setNight(200, reserve);
            for (int night = 0; night < 6; night++) {
                dueWould("a bound of 5 at first, night " + night, house, night == 0 ? 1 : 2);
                house.night();
                house.put(0, 0, 100 + night);
            }
            dueWould("a cheap price of 0 at first, a reserve of " + reserve, house, reserve == 0 ? 1 : 2);
        }
    }

    private static void whoWantsADifference() {
        Edge.ofTerms("If it wants no base, or if the base has more bytes than there is room left when its"
                + " turn comes, and it has a chain, it wants a difference, if its row of chunks is another"
                + " one than that of its latest day.");
        for (int room = 4; room <= 11; room++) {
            DeltaNights house = houseOf(4);
            bids(house, 5);
            house.night();
            house.setChain(0, 0, 50);
            house.put(0, 0, 200);
            Check.due("forBase(0)", house.forBase(0), 10);
            Check.due("forDifference(0)", house.forDifference(0), 6);
            house.setNight(room, 1);
            dueWould("a base of 10 bytes, a difference of 6, room for " + room, house,
                    room >= 10 ? 1 : room >= 6 ? 2 : 0);
            house.cut(0, 0, 1);
            dueWould("the same row, a base of 8 bytes, room for " + room, house, room >= 8 ? 1 : 0);
        }
        DeltaNights noChain = houseOf(4);
        bids(noChain, 5);
        noChain.setNight(7, 1);
        dueWould("no chain", noChain, 0);

        // Room for 12, of which client 1 takes 2 or 3 ahead of client 0's turn.
        for (int taken = 1; taken <= 2; taken++) {
            DeltaNights house = houseOf(4, taken - 1);
            bids(house, 5);
            house.night();
            house.setChain(0, 0, 50);
            house.put(0, 0, 200);
            bids(house, 5, 6);
            house.put(1, 0, 0);
            house.setNight(12, 1);
            dueWould("the room when its turn comes", house, taken == 1 ? 1 : 2, 1);
        }
        anotherRow();
    }

    private static void anotherRow() {
        DeltaNights house = Scene.ofChunks(2);
        Check.write(house, 0, 1, 2, 1, 2);
        bids(house, 5);
        house.night();
        dueWould("the row of its latest day", house, 0);
        house.cut(0, 0, 2);
        dueWould("a chunk less, though the chain holds it", house, 2);
        Check.write(house, 0, 1, 2);
        dueWould("the row again", house, 0);
        Check.write(house, 0, 1, 2);
        dueWould("a chunk more, though the chain holds it", house, 2);
        house.night();
        house.cut(0, 0, 2);
        dueWould("the row of the day ahead of its latest", house, 2);
        house.cut(0, 0, 4);
        dueWould("no chunk", house, 2);
        house.night();
        dueWould("no chunk again", house, 0);
        Check.write(house, 0, 1);
        dueWould("a chunk after none", house, 2);

        DeltaNights marks = Scene.ofChunks(2);
        Check.write(marks, 0, 7, 7, 7, 7);
        bids(marks, 5);
        marks.night();
        marks.setMarks(0, 3, 3);
        dueWould("the same bytes in other chunks", marks, 2);
        marks.setMarks(8, 2, 2);
        dueWould("other marks, the same chunks", marks, 0);
    }

    private static void turns() {
        Edge.ofTerms("Those who ask have their turns by falling bids, of the same bid by rising clients.");
        int[][] rows = {{5, 5, 5, 5}, {5, 6, 5, 6}, {1, 2, 3, 4}, {4, 3, 2, 1}, {100, 1, 100, 1}, {1, 1, 100, 99}};
        int[][] firsts = {{0, 1}, {1, 3}, {3, 2}, {0, 1}, {0, 2}, {2, 3}};
        for (int row = 0; row < rows.length; row++) {
            DeltaNights house = houseOf(1, 1, 1, 1);
            bids(house, rows[row]);
            for (int many = 0; many <= 4; many++) {
                house.setNight(2 * many, 1);
                int served = 0;
                for (int client = 0; client < 4; client++) {
                    served += house.would(client);
                }
                Check.due("room for " + many, served, many);
                Check.due("the first turn, " + row, house.would(firsts[row][0]), many >= 1 ? 1 : 0);
                Check.due("the second turn, " + row, house.would(firsts[row][1]), many >= 2 ? 1 : 0);
            }
        }
    }

    private static void whoIsServed() {
        Edge.ofTerms("Each is served, if the bytes of the link that it wants are not more than the room that"
                + " is left, which then is less by these.");
        for (int room = 0; room <= 20; room++) {
            DeltaNights house = houseOf(4, 3, 2, 1);
            bids(house, 9, 8, 7, 6);
            house.setNight(room, 1);
            int left = room;
            int many = 0;
            for (int client = 0; client < 4; client++) {
                int size = 2 * (4 - client);
                boolean fits = size <= left;
                Check.due("room for " + room + ": would(" + client + ")", house.would(client), fits ? 1 : 0);
                left -= fits ? size : 0;
                many += fits ? 1 : 0;
            }
            Check.due("room for " + room + ": night()", house.night(), many);
        }
        DeltaNights empty = houseOf(0);
        bids(empty, 1);
        empty.setNight(0, 1);
        dueWould("a base of 0 bytes in a room of 0", empty, 1);
        Check.due("night()", empty.night(), 1);
        empty.put(0, 0, 7);
        empty.setNight(2, 1);
        empty.night();
        empty.cut(0, 0, 1);
        empty.setNight(0, 1);
        dueWould("a difference of 0 bytes in a room of 0", empty, 2);
        Check.due("night()", empty.night(), 1);
        Check.due("bytes(0, 2)", empty.bytes(0, 2), 0);

        // The room of each night is whole again.
        DeltaNights again = houseOf(2, 2);
        bids(again, 9, 8);
        again.setNight(4, 1);
        Check.due("the first night", again.night(), 1);
        Check.due("the second night", again.night(), 1);
        Check.due("got(1, 1)", again.got(1, 1), 1);
    }

    private static void whatIsPaid() {
        Edge.ofTerms("Who is served pays for each byte of the link the greatest bid of those that asked, had"
                + " their turns behind it, and were not served; at least the reserve.");
        // Sizes, bids, room and reserve; then what each pays for a byte.
        int[][][] rows = {
            {{1, 1, 1, 1}, {9, 7, 5, 3}, {8, 2}, {2, 2, 2, 2}},
            {{1, 1, 1, 1}, {9, 7, 5, 3}, {6, 2}, {3, 3, 3, 0}},
            {{1, 1, 1, 1}, {9, 7, 5, 3}, {6, 3}, {3, 3, 3, 0}},
            {{1, 1, 1, 1}, {9, 7, 5, 3}, {6, 4}, {4, 4, 4, 0}},
            {{1, 1, 1, 1}, {9, 7, 5, 3}, {2, 2}, {7, 0, 0, 0}},
            {{1, 9, 1, 9}, {9, 7, 5, 3}, {4, 1}, {7, 0, 3, 0}},
            {{9, 1, 9, 1}, {9, 7, 5, 3}, {4, 1}, {0, 5, 0, 1}},
            {{9, 1, 1, 1}, {9, 7, 5, 3}, {6, 0}, {0, 0, 0, 0}},
            {{1, 1, 1, 9}, {9, 9, 9, 9}, {6, 0}, {9, 9, 9, 0}},
            {{1, 9, 1, 1}, {9, 9, 9, 9}, {6, 2}, {9, 0, 2, 2}},
            {{1, 9, 9, 9}, {100, 100, 99, 98}, {2, 50}, {100, 0, 0, 0}},
            {{1, 9, 1, 9}, {50, 50, 50, 49}, {4, 50}, {50, 0, 50, 0}},
        };
        for (int[][] row : rows) {
            DeltaNights house = houseOf(row[0]);
            bids(house, row[1]);
            house.setNight(row[2][0], row[2][1]);
            house.night();
            int[] paid = new int[4];
            for (int client = 0; client < 4; client++) {
                paid[client] = 2 * row[0][client] * row[3][client];
            }
            duePaid("bids " + java.util.Arrays.toString(row[1]) + " in " + row[2][0], house, paid);
        }
        // A link of no byte costs nothing, whatever is bid behind it.
        DeltaNights house = houseOf(0, 2);
        bids(house, 9, 8);
        house.setNight(3, 5);
        house.night();
        duePaid("no byte", house, 0, 0);
        Check.due("got(0, 0)", house.got(0, 0), 1);
    }

    private static void setNight() {
        Edge.of(14, "Sets the room and the reserve of the nights to come.");
        DeltaNights house = houseOf(2, 2);
        bids(house, 9, 8);
        house.setNight(4, 3);
        Check.due("the first one to come", house.night(), 1);
        house.put(0, 0, 99);
        Check.due("and the second one", house.night(), 1);
        duePaid("the same reserve in both", house, 4 * 8 + 4 * 8, 0);
        house.setNight(100, 9);
        duePaid("not of those gone by", house, 64, 0);
        Check.due("got(1, 0)", house.got(1, 0), 0);

        Edge.of(14, "- `room`: 0 to 500");
        house = houseOf(1);
        bids(house, 9);
        house.setNight(0, 1);
        dueWould("no room", house, 0);
        house.setNight(1, 1);
        dueWould("a room of 1", house, 0);
        house.setNight(2, 1);
        dueWould("a room of 2", house, 1);
        DeltaNights four = houseOf(48, 48, 48, 48);
        bids(four, 1, 1, 1, 1);
        four.setNight(500, 1);
        dueWould("a room of 500", four, 1, 1, 1, 1);
        for (int room : new int[] {-1, 501, Integer.MIN_VALUE, Integer.MAX_VALUE}) {
            Scene.allRefuse(Call.ARGUMENT, "setNight", room, 1);
        }

        Edge.of(14, "- `reserve`: 0 to 50");
        house.setNight(200, 0);
        house.night();
        duePaid("a reserve of 0", house, 0);
        house.put(0, 0, 7);
        house.bid(0, 50);
        house.setNight(200, 50);
        house.night();
        duePaid("a reserve of 50", house, 3 * 50);
        for (int reserve : new int[] {-1, 51, Integer.MIN_VALUE, Integer.MAX_VALUE}) {
            Scene.allRefuse(Call.ARGUMENT, "setNight", 200, reserve);
        }

        Edge.of(14, "Throws `IllegalArgumentException` if room or reserve is out of range");
        int[][] bad = {{501, 0}, {0, 51}, {-1, 50}, {500, -1}, {501, 51}, {-1, -1}, {0, Integer.MIN_VALUE},
            {Integer.MAX_VALUE, 0}};
        for (int[] row : bad) {
            Scene.allRefuse(Call.ARGUMENT, "setNight", row);
        }
    }

    private static void bid() {
        Edge.of(15, "Sets the bid of a client.");
        DeltaNights house = houseOf(1, 1);
        house.bid(1, 2);
        dueWould("of this client alone", house, 0, 1);

        Edge.of(15, "- `client`: 0 to 3");
        DeltaNights four = new DeltaNights();
        for (int client = 0; client < 4; client++) {
            Check.due("bid(" + client + ")", four.bid(client, 10 + client), 0);
        }
        for (int client = 0; client < 4; client++) {
            Check.due("bid(" + client + ")", four.bid(client, 0), 10 + client);
        }
        for (int client : BAD_CLIENTS) {
            Scene.allRefuse(Call.ARGUMENT, "bid", client, 5);
        }

        Edge.of(15, "- `price`: 0 to 100");
        DeltaNights prices = houseOf(1, 1);
        prices.setNight(2, 0);
        bids(prices, 100, 100);
        prices.night();
        duePaid("a price of 100", prices, 200, 0);
        prices.bid(1, 0);
        dueWould("a price of 0", prices, 0, 0);
        for (int price : new int[] {-1, 101, Integer.MIN_VALUE, Integer.MAX_VALUE}) {
            Scene.allRefuse(Call.ARGUMENT, "bid", 0, price);
            Scene.allRefuse(Call.ARGUMENT, "bid", 3, price);
        }

        Edge.of(15, "Returns the bid before.");
        DeltaNights before = new DeltaNights();
        Check.due("the first bid", before.bid(2, 100), 0);
        Check.due("the same bid", before.bid(2, 100), 100);
        Check.due("a bid of 0", before.bid(2, 0), 100);
        Check.due("after a bid of 0", before.bid(2, 1), 0);
        before.night();
        Check.due("after a night", before.bid(2, 5), 1);

        Edge.of(15, "Throws `IllegalArgumentException` if client or price is out of range");
        for (int client : BAD_CLIENTS) {
            Scene.allRefuse(Call.ARGUMENT, "bid", client, -1);
            Scene.allRefuse(Call.ARGUMENT, "bid", client, 101);
            Scene.allRefuse(Call.ARGUMENT, "bid", client, 0);
        }
    }

    private static void setChain() {
        Edge.of(16, "Sets when a client wants a base anew.");
        DeltaNights house = houseOf(1, 1);
        bids(house, 9, 9);
        house.night();
        house.setChain(0, 0, 1);
        dueWould("of this client alone", house, 1, 0);

        Edge.of(16, "- `client`: 0 to 3");
        for (int client = 0; client < 4; client++) {
            DeltaNights each = new DeltaNights();
            each.bid(client, 9);
            each.night();
            each.setChain(client, 0, 50);
            Check.due("would(" + client + ")", each.would(client), 1);
        }
        for (int client : BAD_CLIENTS) {
            Scene.allRefuse(Call.ARGUMENT, "setChain", client, 0, 50);
        }

        Edge.of(16, "- `bound`: 0 to 30 differences");
        DeltaNights anew = houseOfChain(0);
        anew.setChain(0, 0, 50);
        for (int night = 1; night < 5; night++) {
            anew.night();
            Check.due("a bound of 0, the same row", anew.got(0, night), 1);
        }
        DeltaNights thirty = houseOfChain(29);
        thirty.setChain(0, 30, 50);
        dueWould("29 differences of 30", thirty, 0);
        thirty.put(0, 0, 99);
        dueWould("29 differences of 30, another row", thirty, 2);
        thirty.night();
        dueWould("30 differences of 30", thirty, 1);
        for (int bound : new int[] {-1, 31, Integer.MIN_VALUE, Integer.MAX_VALUE}) {
            for (int client = 0; client < 4; client++) {
                Scene.allRefuse(Call.ARGUMENT, "setChain", client, bound, 10);
            }
        }

        Edge.of(16, "- `cheap`: 0 to 50");
        DeltaNights cheap = houseOfChain(0);
        for (int reserve : new int[] {0, 1, 49, 50}) {
            cheap.setNight(200, reserve);
            cheap.setChain(0, 0, 0);
            dueWould("a cheap price of 0, a reserve of " + reserve, cheap, reserve == 0 ? 1 : 0);
            cheap.setChain(0, 0, 50);
            dueWould("a cheap price of 50, a reserve of " + reserve, cheap, 1);
        }
        for (int price : new int[] {-1, 51, Integer.MIN_VALUE, Integer.MAX_VALUE}) {
            for (int client = 0; client < 4; client++) {
                Scene.allRefuse(Call.ARGUMENT, "setChain", client, 1, price);
            }
        }

        Edge.of(16, "Throws `IllegalArgumentException` if client, bound or cheap is out of range");
        int[][] bad = {{0, -1}, {0, 51}, {-1, 0}, {31, 0}, {31, 51}, {-1, -1}, {30, 51}, {30, -1}, {31, 50},
            {-1, 50}};
        for (int[] row : bad) {
            for (int client = -1; client <= 4; client++) {
                Scene.allRefuse(Call.ARGUMENT, "setChain", client, row[0], row[1]);
            }
        }
        Scene.allRefuse(Call.ARGUMENT, "setChain", 4, 30, 50);
        Scene.allRefuse(Call.ARGUMENT, "setChain", -1, 0, 0);
    }

    private static void forBase() {
        Edge.of(17, "Returns the bytes that a base of a client would have now.");
        Check.due("no chunk", houseOf(0).forBase(0), 0);
        Check.due("one chunk", houseOf(1).forBase(0), 2);
        DeltaNights full = houseOf(48);
        Check.due("48 unlike chunks", full.forBase(0), 96);
        for (int i = 0; i < 48; i++) {
            full.set(0, i, 5);
        }
        Check.due("48 chunks that are the same", full.forBase(0), 49);
        full.setMarks(0, 16, 24);
        Check.due("as it is cut now", full.forBase(0), 3 + 16);
        full.setMarks(0, 12, 12);
        Check.due("as it is cut now", full.forBase(0), 4 + 12);
        DeltaNights held = houseOf(48);
        bids(held, 1);
        held.night();
        Check.due("though a chain holds all of it", held.forBase(0), 96);

        Edge.of(17, "- `client`: 0 to 3");
        DeltaNights four = houseOf(1, 2, 3, 4);
        for (int client = 0; client < 4; client++) {
            Check.due("forBase(" + client + ")", four.forBase(client), 2 * client + 2);
        }

        Edge.of(17, "Throws `IllegalArgumentException` if client is out of range");
        for (int client : BAD_CLIENTS) {
            Scene.allRefuse(Call.ARGUMENT, "forBase", client);
        }
    }

    private static void forDifference() {
        Edge.of(18, "Returns the bytes that a difference of a client would have now.");
        DeltaNights house = houseOf(48);
        bids(house, 1);
        house.night();
        Check.due("nothing new in 48 chunks", house.forDifference(0), 48);
        house.set(0, 47, 200);
        Check.due("the last one is new", house.forDifference(0), 49);
        for (int i = 0; i < 48; i++) {
            house.set(0, i, 100 + i);
        }
        Check.due("all are new", house.forDifference(0), 96);
        for (int i = 0; i < 48; i++) {
            house.set(0, i, 200);
        }
        Check.due("all are the same new one", house.forDifference(0), 49);
        house.cut(0, 0, 48);
        Check.due("no chunk", house.forDifference(0), 0);
        dueWould("and still a difference", house, 2);

        Edge.of(18, "- `client`: 0 to 3");
        DeltaNights four = houseOf(1, 2, 3, 4);
        bids(four, 1, 1, 1, 1);
        four.night();
        for (int client = 0; client < 4; client++) {
            Check.due("forDifference(" + client + ")", four.forDifference(client), client + 1);
        }

        Edge.of(18, "Throws `IllegalArgumentException` if client is out of range");
        for (int client : BAD_CLIENTS) {
            Scene.allRefuse(Call.ARGUMENT, "forDifference", client);
        }

        Edge.of(18, "Throws `IllegalStateException` if it has no chain");
        for (int client = 0; client < 4; client++) {
            Scene.FRESH.refuses(Call.STATE, "forDifference", client);
        }
        Scene.FULL.refuses(Call.STATE, "forDifference", 2);
        DeltaNights empty = new DeltaNights();
        empty.bid(0, 1);
        empty.night();
        Check.due("a chain of an empty base", empty.forDifference(0), 0);
    }

    private static void would() {
        Edge.of(19, "Returns what a client would get, if one more night went by now, also if 60 have gone by:"
                + " 0 nothing, 1 a base, 2 a difference.");
        DeltaNights house = new DeltaNights();
        house.bid(0, 1);
        for (int night = 0; night < 60; night++) {
            int would = house.would(0);
            Check.due("would(0) ahead of night " + night, would, night == 0 ? 1 : night % 2 == 0 ? 2 : 0);
            house.night();
            Check.due("got(0, " + night + ")", house.got(0, night), would);
            if (night % 2 == 1) {
                house.put(0, 0, night);
            }
        }
        dueWould("60 have gone by", house, 2, 0);
        house.bid(1, 1);
        dueWould("60 have gone by, no chain", house, 2, 1);
        house.cut(0, 0, 1);
        dueWould("60 have gone by, the latest row", house, 0, 1);
        house.setChain(0, 0, 50);
        dueWould("60 have gone by, a base anew", house, 1, 1);
        house.setNight(0, 1);
        dueWould("60 have gone by, no room", house, 0, 1);
        Check.due("nights()", house.nights(), 60);

        Edge.of(19, "- `client`: 0 to 3");
        DeltaNights busy = Scene.BUSY.make();
        dueWould("in its turn", busy, 2, 0, 2, 1);
        Check.due("three of four", busy.night(), 3);
        int[] got = {2, 0, 2, 1};
        for (int client = 0; client < 4; client++) {
            Check.due("got(" + client + ", 5)", busy.got(client, 5), got[client]);
        }

        Edge.of(19, "Throws `IllegalArgumentException` if client is out of range");
        for (int client : BAD_CLIENTS) {
            Scene.allRefuse(Call.ARGUMENT, "would", client);
        }
    }

    private static void night() {
        Edge.of(20, "Lets the next night go by.");
        DeltaNights house = houseOf(1);
        bids(house, 1);
        house.night();
        house.put(0, 0, 9);
        house.night();
        Check.due("the first one", house.lengthOf(0, 0), 1);
        Check.due("the next one", house.lengthOf(0, 1), 2);

        Edge.of(20, "Returns how many clients are served.");
        Check.due("no bid", new DeltaNights().night(), 0);
        for (int many = 0; many <= 4; many++) {
            DeltaNights each = houseOf(1, 1, 1, 1);
            for (int client = 0; client < many; client++) {
                each.bid(3 - client, 5);
            }
            Check.due("bids of " + many, each.night(), many);
            Check.due("and none behind it", each.night(), 0);
        }

        Edge.of(20, "Throws `IllegalStateException` if 60 have gone by");
        DeltaNights last = new DeltaNights();
        for (int night = 0; night < 59; night++) {
            last.night();
        }
        last.bid(3, 1);
        Check.due("the last night", last.night(), 1);
        Check.due("got(3, 59)", last.got(3, 59), 1);
        last.put(3, 0, 1);
        for (int again = 0; again < 3; again++) {
            Check.dueText("one more", Call.answer(last, "night"), Call.STATE);
        }
        Check.due("chain(3)", last.chain(3), 0);
    }

    private static void refusedNight() {
        Scene.FULL.refuses(Call.STATE, "night");
        DeltaNights asked = Scene.FULL.make();
        asked.put(2, asked.cut(2, 0, 1), 5);
        int would = asked.would(2);
        Check.due("a night would serve somebody", would, 1);
        Check.dueText("night()", Call.answer(asked, "night"), Call.STATE);
        Check.due("chain(2)", asked.chain(2), -1);
        Check.due("paid(2)", asked.paid(2), 0);
        Check.due("would(2)", asked.would(2), would);
        Check.dueText("got(2, 60)", Call.answer(asked, "got", 2, 60), Call.INDEX);
    }

    private static void nights() {
        Edge.of(21, "Returns how many nights have gone by.");
        DeltaNights house = new DeltaNights();
        for (int night = 0; night < 60; night++) {
            Check.due("nights()", house.nights(), night);
            house.night();
        }
        Check.due("nights()", house.nights(), 60);
        Check.dueText("night()", Call.answer(house, "night"), Call.STATE);
        Check.due("nights() after a refused night", house.nights(), 60);
    }
}
