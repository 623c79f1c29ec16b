/** The edges that promises 1 to 8 name, sentence by sentence. */
final class EdgesOfFiles {

    static final int[] BAD_CLIENTS = {-1, 4, Integer.MIN_VALUE, Integer.MAX_VALUE};
    private static final int[] BAD_VALUES = {-1, 256, Integer.MIN_VALUE, Integer.MAX_VALUE};

    private EdgesOfFiles() {
    }

    static void check() {
        newObject();
        put();
        refusedPut();
        set();
        refusedSet();
        cut();
        refusedCut();
        copy();
        refusedCopy();
        length();
        at();
        digest();
    }

    /** A house whose client 0 has so many bytes: 1, 2, 3 and so on. */
    private static DeltaNights houseOf(int bytes) {
        DeltaNights house = new DeltaNights();
        for (int i = 0; i < bytes; i++) {
            house.put(0, i, i + 1);
        }
        return house;
    }

    private static void newObject() {
        Edge.of(1, "Begins with empty files, ahead of the night 0.");
        DeltaNights house = new DeltaNights();
        for (int client = 0; client < 4; client++) {
            Check.due("length", house.length(client), 0);
            Check.due("chunks", house.chunks(client), 0);
            Check.due("chain", house.chain(client), -1);
            Scene.FRESH.refuses(Call.INDEX, "at", client, 0);
            Scene.FRESH.refuses(Call.INDEX, "got", client, 0);
        }
        Check.due("nights()", house.nights(), 0);
        house.bid(0, 1);
        Check.due("night()", house.night(), 1);
        Check.due("the first night is the night 0", house.dayOf(0, 0), 0);
        Check.dueFile("another object", new DeltaNights(), 0);
    }

    private static void put() {
        Edge.of(2, "- `client`: 0 to 3");
        for (int client = 0; client < 4; client++) {
            DeltaNights house = new DeltaNights();
            Check.due("put", house.put(client, 0, 7), 1);
            for (int other = 0; other < 4; other++) {
                Check.due("length(" + other + ")", house.length(other), other == client ? 1 : 0);
            }
        }
        for (int client : BAD_CLIENTS) {
            Scene.allRefuse(Call.ARGUMENT, "put", client, 0, 7);
        }

        Edge.of(2, "- `place`: 0 to how many bytes the file has");
        Check.due("place 0 of an empty file", houseOf(0).put(0, 0, 9), 1);
        DeltaNights house = houseOf(3);
        Check.due("place 0", house.put(0, 0, 9), 4);
        Check.due("the place behind the last byte", house.put(0, 4, 8), 5);
        Check.dueFile("put at both ends", house, 0, 9, 1, 2, 3, 8);
        Scene.FRESH.refuses(Call.INDEX, "put", 0, 1, 9);
        Scene.BUSY.refuses(Call.INDEX, "put", 0, 21, 9);
        Scene.allRefuse(Call.INDEX, "put", 0, -1, 9);

        Edge.of(2, "- `value`: 0 to 255");
        DeltaNights values = houseOf(0);
        values.put(0, 0, 0);
        values.put(0, 1, 255);
        Check.dueFile("the least and the greatest byte", values, 0, 0, 255);
        for (int value : BAD_VALUES) {
            Scene.allRefuse(Call.ARGUMENT, "put", 0, 0, value);
        }

        Edge.of(2, "Puts a byte in, ahead of the byte at a place, or behind all.");
        DeltaNights nearlyFull = houseOf(47);
        nearlyFull.put(0, 0, 99);
        Check.due("the byte put ahead of all", nearlyFull.at(0, 0), 99);
        Check.due("the first one of those moved", nearlyFull.at(0, 1), 1);
        Check.due("the last one of those moved", nearlyFull.at(0, 47), 47);
        nearlyFull = houseOf(47);
        nearlyFull.put(0, 46, 99);
        Check.due("ahead of the last byte", nearlyFull.at(0, 46), 99);
        Check.due("the last byte moved", nearlyFull.at(0, 47), 47);
        Check.due("the byte ahead of these", nearlyFull.at(0, 45), 46);
        nearlyFull = houseOf(47);
        nearlyFull.put(0, 47, 99);
        Check.due("behind all", nearlyFull.at(0, 47), 99);

        Edge.of(2, "Returns how many bytes the file has then.");
        DeltaNights growing = new DeltaNights();
        for (int i = 0; i < 48; i++) {
            Check.due("put", growing.put(3, i / 2, i), i + 1);
        }
    }

    private static void refusedPut() {
        Edge.of(2, "Throws `IllegalArgumentException` if client or value is out of range");
        for (int bad : BAD_CLIENTS) {
            Scene.BUSY.refuses(Call.ARGUMENT, "put", bad, -1, -1);
            Scene.BUSY.refuses(Call.ARGUMENT, "put", bad, 21, 256);
            Scene.FULL.refuses(Call.ARGUMENT, "put", bad, 49, 7);
            Scene.FULL.refuses(Call.ARGUMENT, "put", bad, 48, 7);
            Scene.FULL.refuses(Call.ARGUMENT, "put", 0, 48, bad == 4 ? 256 : bad);
            Scene.FULL.refuses(Call.ARGUMENT, "put", 0, 49, bad == 4 ? 256 : bad);
        }
        Scene.BUSY.refuses(Call.ARGUMENT, "put", 0, 21, 256);
        Scene.FRESH.refuses(Call.ARGUMENT, "put", 0, -1, -1);

        Edge.of(2, "Throws `IndexOutOfBoundsException` if there is no such place");
        int[] far = {-1, 49, 100, Integer.MIN_VALUE, Integer.MAX_VALUE};
        for (int place : far) {
            Scene.allRefuse(Call.INDEX, "put", 0, place, 0);
            Scene.allRefuse(Call.INDEX, "put", 3, place, 255);
        }
        Scene.BUSY.refuses(Call.INDEX, "put", 2, 10, 5);

        Edge.of(2, "Throws `IllegalStateException` if the file has 48 bytes");
        for (int client = 0; client < 4; client++) {
            Scene.FULL.refuses(Call.STATE, "put", client, 0, 0);
            Scene.FULL.refuses(Call.STATE, "put", client, 47, 255);
            Scene.FULL.refuses(Call.STATE, "put", client, 48, 7);
        }
        Check.due("and not if it has 47", houseOf(47).put(0, 47, 7), 48);
        DeltaNights again = houseOf(48);
        again.cut(0, 20, 1);
        Check.due("and not if it has 48 no more", again.put(0, 0, 7), 48);
    }

    private static void set() {
        Edge.of(3, "Changes a byte.");
        DeltaNights house = houseOf(48);
        house.set(0, 0, 200);
        house.set(0, 47, 201);
        Check.due("the first byte", house.at(0, 0), 200);
        Check.due("the second byte", house.at(0, 1), 2);
        Check.due("the last byte but one", house.at(0, 46), 47);
        Check.due("the last byte", house.at(0, 47), 201);
        Check.due("as many as before", house.length(0), 48);

        Edge.of(3, "- `client`: 0 to 3");
        for (int client = 0; client < 4; client++) {
            DeltaNights each = new DeltaNights();
            each.put(client, 0, 7);
            Check.due("set", each.set(client, 0, 8), 7);
            Check.due("at", each.at(client, 0), 8);
        }
        for (int client : BAD_CLIENTS) {
            Scene.allRefuse(Call.ARGUMENT, "set", client, 0, 7);
        }

        Edge.of(3, "- `value`: 0 to 255");
        Check.due("set to 255", house.set(0, 5, 255), 6);
        Check.due("255", house.at(0, 5), 255);
        Check.due("set to 0", house.set(0, 5, 0), 255);
        Check.due("0", house.at(0, 5), 0);
        for (int value : BAD_VALUES) {
            Scene.allRefuse(Call.ARGUMENT, "set", 0, 0, value);
        }

        Edge.of(3, "Returns the byte before.");
        Check.due("set(0, 5, 3)", house.set(0, 5, 3), 0);
        Check.due("the same byte again", house.set(0, 5, 3), 3);
        Check.due("of the last one", house.set(0, 47, 1), 201);
    }

    private static void refusedSet() {
        Edge.of(3, "Throws `IllegalArgumentException` if client or value is out of range");
        for (int client : BAD_CLIENTS) {
            Scene.allRefuse(Call.ARGUMENT, "set", client, -1, 7);
            Scene.allRefuse(Call.ARGUMENT, "set", client, 48, 256);
        }
        Scene.allRefuse(Call.ARGUMENT, "set", 0, 48, 256);
        Scene.allRefuse(Call.ARGUMENT, "set", 0, -1, -1);

        Edge.of(3, "Throws `IndexOutOfBoundsException` if the file has no byte at place");
        Scene.FRESH.refuses(Call.INDEX, "set", 0, 0, 7);
        Scene.BUSY.refuses(Call.INDEX, "set", 0, 20, 7);
        Scene.BUSY.refuses(Call.INDEX, "set", 2, 9, 7);
        int[] far = {-1, 48, Integer.MIN_VALUE, Integer.MAX_VALUE};
        for (int place : far) {
            Scene.allRefuse(Call.INDEX, "set", 1, place, 7);
        }
        Check.due("and not at the last one", Scene.BUSY.make().set(0, 19, 7), 19 * 19 * 7 % 256);
    }

    private static void cut() {
        Edge.of(4, "Cuts bytes out.");
        DeltaNights house = houseOf(5);
        house.cut(0, 1, 3);
        Check.dueFile("between", house, 0, 1, 5);
        house = houseOf(5);
        house.cut(0, 0, 5);
        Check.dueFile("all", house, 0);
        house.put(0, 0, 9);
        Check.dueFile("and written anew", house, 0, 9);

        Edge.of(4, "- `client`: 0 to 3");
        for (int client = 0; client < 4; client++) {
            DeltaNights each = new DeltaNights();
            Check.write(each, client, 7, 8);
            Check.due("cut", each.cut(client, 0, 1), 1);
        }
        for (int client : BAD_CLIENTS) {
            Scene.allRefuse(Call.ARGUMENT, "cut", client, 0, 0);
        }

        Edge.of(4, "- `place`: the first one");
        house = houseOf(4);
        house.cut(0, 0, 1);
        Check.dueFile("from the first place on", house, 0, 2, 3, 4);
        house.cut(0, 2, 1);
        Check.dueFile("from the last place on", house, 0, 2, 3);

        Edge.of(4, "- `many`: how many, 0 or more");
        Check.due("none out of an empty file", houseOf(0).cut(0, 0, 0), 0);
        Check.due("none at the first place", house.cut(0, 0, 0), 2);
        Check.due("none behind all", house.cut(0, 2, 0), 2);
        Check.dueFile("none", house, 0, 2, 3);
        Check.due("one", houseOf(48).cut(0, 47, 1), 47);
        Check.due("all of a full file", houseOf(48).cut(0, 0, 48), 0);
        Scene.allRefuse(Call.INDEX, "cut", 0, 0, -1);

        Edge.of(4, "Returns how many bytes the file has then.");
        Check.due("all but the first", houseOf(48).cut(0, 1, 47), 1);
        Check.due("all but the last", houseOf(48).cut(0, 0, 47), 1);
        Check.due("none of a full file", houseOf(48).cut(0, 48, 0), 48);
    }

    private static void refusedCut() {
        Edge.of(4, "Throws `IllegalArgumentException` if client is out of range");
        for (int client : BAD_CLIENTS) {
            Scene.allRefuse(Call.ARGUMENT, "cut", client, -1, 0);
            Scene.allRefuse(Call.ARGUMENT, "cut", client, 0, -1);
            Scene.allRefuse(Call.ARGUMENT, "cut", client, 49, 49);
        }

        Edge.of(4, "Throws `IndexOutOfBoundsException` if place or many is below 0, place is above how"
                + " many bytes the file has, or it does not have so many bytes from place on");
        int[][] always = {{-1, 0}, {-1, 1}, {-1, 2}, {0, -1}, {1, -1}, {-1, -1}, {49, 0}, {49, -1},
            {0, 49}, {1, 48}, {48, 1}, {47, 2}, {Integer.MIN_VALUE, 0}, {0, Integer.MIN_VALUE},
            {Integer.MAX_VALUE, 0}, {0, Integer.MAX_VALUE}, {1, Integer.MAX_VALUE},
            {Integer.MAX_VALUE, 1}, {Integer.MAX_VALUE, Integer.MAX_VALUE},
            {Integer.MIN_VALUE, Integer.MIN_VALUE}, {Integer.MIN_VALUE, Integer.MAX_VALUE}};
        for (int[] run : always) {
            Scene.allRefuse(Call.INDEX, "cut", 0, run[0], run[1]);
        }
        Scene.FRESH.refuses(Call.INDEX, "cut", 0, 1, 0);
        Scene.FRESH.refuses(Call.INDEX, "cut", 0, 0, 1);
        int[][] ofTwenty = {{21, 0}, {20, 1}, {19, 2}, {0, 21}, {1, 20}, {21, -1}};
        for (int[] run : ofTwenty) {
            Scene.BUSY.refuses(Call.INDEX, "cut", 0, run[0], run[1]);
        }
        Check.due("and not for the last ones", Scene.BUSY.make().cut(0, 18, 2), 18);
    }

    private static void copy() {
        Edge.of(5, "Copies bytes of a file to the end of another one, or of itself, as if all were taken"
                + " ahead.");
        DeltaNights house = houseOf(3);
        house.copy(0, 1, 2, 0);
        Check.dueFile("to itself", house, 0, 1, 2, 3, 2, 3);
        house = houseOf(24);
        house.copy(0, 0, 24, 0);
        for (int i = 0; i < 24; i++) {
            Check.due("all to itself, " + i, house.at(0, 24 + i), i + 1);
        }
        house.copy(0, 1, 47, 1);
        Check.due("all but the first to another one", house.digest(1), digestWithoutFirst(house));
        house.set(1, 0, 99);
        Check.due("the other's byte is its own", house.at(0, 1), 2);

        Edge.of(5, "- `client`: 0 to 3");
        for (int client = 0; client < 4; client++) {
            DeltaNights each = new DeltaNights();
            each.put(client, 0, 60 + client);
            Check.due("copy", each.copy(client, 0, 1, client), 2);
            Check.dueFile("copy", each, client, 60 + client, 60 + client);
        }
        for (int client : BAD_CLIENTS) {
            Scene.allRefuse(Call.ARGUMENT, "copy", client, 0, 0, 0);
        }

        Edge.of(5, "- `other`: 0 to 3");
        for (int other = 0; other < 4; other++) {
            DeltaNights each = houseOf(1);
            Check.due("copy", each.copy(0, 0, 1, other), other == 0 ? 2 : 1);
            Check.due("what was copied", each.at(other, each.length(other) - 1), 1);
        }
        for (int other : BAD_CLIENTS) {
            Scene.allRefuse(Call.ARGUMENT, "copy", 0, 0, 0, other);
        }

        Edge.of(5, "- `place`: the first one");
        house = houseOf(4);
        house.copy(0, 0, 1, 1);
        house.copy(0, 3, 1, 1);
        house.copy(0, 4, 0, 1);
        Check.dueFile("the first place and the last", house, 1, 1, 4);

        Edge.of(5, "- `many`: how many, 0 or more");
        Check.due("none of an empty file", houseOf(0).copy(1, 0, 0, 0), 0);
        Check.due("none of the own file, full", houseOf(48).copy(0, 48, 0, 0), 48);
        Check.due("none to a full file", houseOf(48).copy(1, 0, 0, 0), 48);
        Check.due("all to an empty file", houseOf(48).copy(0, 0, 48, 3), 48);
        Scene.allRefuse(Call.INDEX, "copy", 0, 0, -1, 1);

        Edge.of(5, "Returns how many bytes the other file has then.");
        house = houseOf(5);
        Check.due("the first bytes", house.copy(0, 0, 5, 2), 5);
        Check.due("the same again", house.copy(0, 0, 5, 2), 10);
        Check.due("to itself", house.copy(0, 0, 5, 0), 10);
    }

    private static long digestWithoutFirst(DeltaNights house) {
        long digest = 0;
        for (int i = 1; i < house.length(0); i++) {
            digest = Long.rotateLeft(digest, 5) ^ house.at(0, i);
        }
        return digest;
    }

    private static void refusedCopy() {
        Edge.of(5, "Throws `IllegalArgumentException` if client or other is out of range");
        for (int bad : BAD_CLIENTS) {
            Scene.allRefuse(Call.ARGUMENT, "copy", bad, -1, 0, 1);
            Scene.allRefuse(Call.ARGUMENT, "copy", 0, 0, -1, bad);
            Scene.allRefuse(Call.ARGUMENT, "copy", 0, 49, 49, bad);
            Scene.allRefuse(Call.ARGUMENT, "copy", bad, 49, 49, bad);
            Scene.FULL.refuses(Call.ARGUMENT, "copy", bad, 0, 1, 0);
            Scene.FULL.refuses(Call.ARGUMENT, "copy", 0, 0, 48, bad);
        }

        Edge.of(5, "Throws `IndexOutOfBoundsException` if place or many is below 0, place is above how"
                + " many bytes the file has, or it does not have so many bytes from place on");
        int[][] always = {{-1, 0}, {-1, 1}, {-1, 2}, {0, -1}, {1, -1}, {-1, -1}, {49, 0}, {49, -1},
            {0, 49}, {1, 48}, {48, 1}, {47, 2}, {Integer.MIN_VALUE, 0}, {0, Integer.MIN_VALUE},
            {Integer.MAX_VALUE, 0}, {0, Integer.MAX_VALUE}, {1, Integer.MAX_VALUE},
            {Integer.MAX_VALUE, 1}, {Integer.MAX_VALUE, Integer.MAX_VALUE},
            {Integer.MIN_VALUE, Integer.MIN_VALUE}, {Integer.MIN_VALUE, Integer.MAX_VALUE}};
        for (int[] run : always) {
            Scene.allRefuse(Call.INDEX, "copy", 0, run[0], run[1], 1);
            Scene.allRefuse(Call.INDEX, "copy", 2, run[0], run[1], 2);
        }
        Scene.FRESH.refuses(Call.INDEX, "copy", 0, 1, 0, 0);
        Scene.FRESH.refuses(Call.INDEX, "copy", 0, 0, 1, 1);
        int[][] ofTwenty = {{21, 0}, {20, 1}, {19, 2}, {0, 21}, {1, 20}, {21, -1}};
        for (int[] run : ofTwenty) {
            Scene.BUSY.refuses(Call.INDEX, "copy", 0, run[0], run[1], 2);
        }
        Scene.BUSY.refuses(Call.INDEX, "copy", 1, 0, 46, 1);

        Edge.of(5, "Throws `IllegalStateException` if the other file would have more than 48");
        Scene.BUSY.refuses(Call.STATE, "copy", 0, 0, 4, 1);
        Scene.BUSY.refuses(Call.STATE, "copy", 1, 0, 4, 1);
        Scene.BUSY.refuses(Call.STATE, "copy", 1, 0, 45, 1);
        Scene.BUSY.refuses(Call.STATE, "copy", 1, 0, 40, 2);
        Check.due("and not if it would have 48", Scene.BUSY.make().copy(0, 0, 3, 1), 48);
        Check.due("and not if it would have 48", Scene.BUSY.make().copy(1, 0, 39, 2), 48);
        for (int client = 0; client < 4; client++) {
            Scene.FULL.refuses(Call.STATE, "copy", client, 0, 1, 3 - client);
            Scene.FULL.refuses(Call.STATE, "copy", client, 0, 48, client);
            Scene.FULL.refuses(Call.STATE, "copy", client, 47, 1, client);
        }
    }

    private static void length() {
        Edge.of(6, "Returns how many bytes a file has.");
        Check.due("an empty file", houseOf(0).length(0), 0);
        Check.due("one byte", houseOf(1).length(0), 1);
        Check.due("a full file", houseOf(48).length(0), 48);

        Edge.of(6, "- `client`: 0 to 3");
        DeltaNights house = Scene.BUSY.make();
        for (int client = 0; client < 4; client++) {
            Check.due("length(" + client + ")", house.length(client), Scene.BUSY_BYTES[client]);
        }

        Edge.of(6, "Throws `IllegalArgumentException` if client is out of range");
        for (int client : BAD_CLIENTS) {
            Scene.allRefuse(Call.ARGUMENT, "length", client);
        }
    }

    private static void at() {
        Edge.of(7, "Returns a byte of a file.");
        DeltaNights house = houseOf(48);
        for (int place = 0; place < 48; place++) {
            Check.due("at(0, " + place + ")", house.at(0, place), place + 1);
        }

        Edge.of(7, "- `client`: 0 to 3");
        DeltaNights busy = Scene.BUSY.make();
        for (int client = 0; client < 4; client++) {
            Check.due("at(" + client + ", 2)", busy.at(client, 2), client * 60 + 28);
        }

        Edge.of(7, "Throws `IllegalArgumentException` if client is out of range");
        for (int client : BAD_CLIENTS) {
            Scene.allRefuse(Call.ARGUMENT, "at", client, 0);
            Scene.allRefuse(Call.ARGUMENT, "at", client, -1);
            Scene.allRefuse(Call.ARGUMENT, "at", client, 48);
        }

        Edge.of(7, "Throws `IndexOutOfBoundsException` if the file has no byte at place");
        Scene.FRESH.refuses(Call.INDEX, "at", 0, 0);
        for (int client = 0; client < 4; client++) {
            Scene.BUSY.refuses(Call.INDEX, "at", client, Scene.BUSY_BYTES[client]);
            for (int place : new int[] {-1, 48, Integer.MIN_VALUE, Integer.MAX_VALUE}) {
                Scene.allRefuse(Call.INDEX, "at", client, place);
            }
        }
        Check.due("and not of a byte that was", houseOf(2).cut(0, 1, 1), 1);
        DeltaNights shorter = houseOf(2);
        shorter.cut(0, 0, 1);
        Check.dueText("at(0, 1)", Call.answer(shorter, "at", 0, 1), Call.INDEX);
    }

    private static void digest() {
        Edge.of(8, "it begins as 0; for each byte, in order, its 64 bits are taken five places up, those"
                + " that fall out above come in below, and then each bit changes that is 1 in the byte.");
        Check.due("of no byte", houseOf(0).digest(0), 0);
        DeltaNights house = new DeltaNights();
        Check.write(house, 0, 255);
        Check.due("of one byte", house.digest(0), 255);
        Check.write(house, 0, 255);
        Check.due("five places up, and bits change", house.digest(0), (255 << 5) ^ 255);
        DeltaNights swapped = new DeltaNights();
        Check.write(swapped, 0, 1, 2);
        Check.due("in order", swapped.digest(0), 32 ^ 2);
        long[] ofTurnedOnes = new long[49];
        ofTurnedOnes[1] = 1;
        DeltaNights one = new DeltaNights();
        one.put(0, 0, 1);
        for (int bytes = 2; bytes <= 48; bytes++) {
            one.put(0, bytes - 1, 0);
            ofTurnedOnes[bytes] = 1L << (5 * (bytes - 1) % 64);
            Check.due("a bit that goes round, " + bytes, one.digest(0), ofTurnedOnes[bytes]);
        }
        DeltaNights high = new DeltaNights();
        high.put(0, 0, 8);
        for (int i = 0; i < 12; i++) {
            high.put(0, 1, 0);
        }
        Check.due("the highest bit", high.digest(0), Long.MIN_VALUE);
        Check.write(high, 0, 255);
        Check.due("the highest bit comes in below", high.digest(0), 16 ^ 255);

        Edge.of(8, "- `client`: 0 to 3");
        for (int client = 0; client < 4; client++) {
            DeltaNights each = new DeltaNights();
            each.put(client, 0, 77);
            Check.due("digest(" + client + ")", each.digest(client), 77);
        }

        Edge.of(8, "Throws `IllegalArgumentException` if client is out of range");
        for (int client : BAD_CLIENTS) {
            Scene.allRefuse(Call.ARGUMENT, "digest", client);
        }
    }
}
