/** Promises 1 to 8: a new object, and files of bytes. */
public final class FilesTest {

    private static final int[] BAD_CLIENTS = {-1, 4, Integer.MIN_VALUE, Integer.MAX_VALUE};

    public static void main(String[] args) {
        beginsEmpty();
        beginsWithTheSettingsOfTheDocument();
        putsBytes();
        refusesToPut();
        setsBytes();
        refusesToSet();
        cutsBytes();
        refusesToCut();
        copiesBytes();
        refusesToCopy();
        tellsLengthAndBytes();
        digests();
        Check.close("FilesTest");
    }

    private static void beginsEmpty() {
        DeltaNights house = new DeltaNights();
        for (int client = 0; client < 4; client++) {
            Check.due("new: length", house.length(client), 0);
            Check.due("new: digest", house.digest(client), 0);
            Check.due("new: chunks", house.chunks(client), 0);
            Check.due("new: chain", house.chain(client), -1);
            Check.due("new: paid", house.paid(client), 0);
            Check.due("new: owed", house.owed(client), 0);
            Check.due("new: bid", house.bid(client, 0), 0);
        }
        Check.due("new: nights", house.nights(), 0);
        Check.due("new: store", house.store(), 0);
        Check.due("new: purse", house.purse(), 0);
        Check.dueNoPlace("new: got(0, 0)", () -> house.got(0, 0));
    }

    private static void beginsWithTheSettingsOfTheDocument() {
        DeltaNights house = new DeltaNights();
        Check.write(house, 0, 1, 0, 0, 0, 0, 0, 0, 0);
        house.bid(0, 1);
        Check.due("a bid of 1 reaches the reserve of 1", house.would(0), 1);
        house.night();
        Check.due("reserve 1", house.paid(0), house.bytes(0, 0));
        Check.dueFloat("mount 5, speed 4", house.minutes(0, 0), 5f + (house.bytes(0, 0)) / 4f);
        house.promise(0, 0, 1);
        Check.dueTrue("a coin is paid where one is promised", house.drill(0) > 0);

        DeltaNights other = new DeltaNights();
        other.setMarks(0, 1, 1);
        other.setSpeed(30, 1);
        for (int i = 0; i < 48; i++) {
            other.put(1, i, i);
        }
        other.bid(1, 1);
        other.night();
        Check.dueTrue("more than 60 minutes", other.minutes(1, 0) > 60f);
        Check.due("the coin is 0 at first", other.drill(1), 0);
    }

    private static void putsBytes() {
        DeltaNights house = new DeltaNights();
        Check.due("put(2, 0, 5)", house.put(2, 0, 5), 1);
        Check.due("put(2, 1, 255)", house.put(2, 1, 255), 2);
        Check.due("put(2, 0, 0)", house.put(2, 0, 0), 3);
        Check.due("put(2, 1, 9)", house.put(2, 1, 9), 4);
        Check.dueFile("put ahead, behind and between", house, 2, 0, 9, 5, 255);
        Check.due("another client's file", house.length(1), 0);
        for (int i = 4; i < 48; i++) {
            Check.due("put up to 48", house.put(2, 2, i), i + 1);
        }
        Check.due("the last byte of a full file", house.at(2, 47), 255);
        Check.due("the byte put last", house.at(2, 2), 47);
    }

    private static void refusesToPut() {
        DeltaNights house = new DeltaNights();
        Check.write(house, 0, 7, 8);
        for (int client : BAD_CLIENTS) {
            Check.dueNoClient("put, client " + client, () -> house.put(client, 0, 1));
            Check.dueNoClient("put, client and place", () -> house.put(client, 9, 1));
        }
        Check.dueNoClient("put(0, 0, 256)", () -> house.put(0, 0, 256));
        Check.dueNoClient("put(0, 0, -1)", () -> house.put(0, 0, -1));
        Check.dueNoClient("put(0, 3, 256)", () -> house.put(0, 3, 256));
        Check.dueNoPlace("put(0, 3, 1)", () -> house.put(0, 3, 1));
        Check.dueNoPlace("put(0, -1, 1)", () -> house.put(0, -1, 1));
        Check.dueNoPlace("put far away", () -> house.put(0, Integer.MAX_VALUE, 1));
        Check.dueFile("after refused puts", house, 0, 7, 8);
        for (int i = 2; i < 48; i++) {
            house.put(0, i, i);
        }
        long digest = house.digest(0);
        Check.dueNoState("put in a full file", () -> house.put(0, 0, 1));
        Check.dueNoState("put behind a full file", () -> house.put(0, 48, 1));
        Check.dueNoPlace("put(0, 49, 1) in a full file", () -> house.put(0, 49, 1));
        Check.dueNoClient("put(0, 49, 300) in a full file", () -> house.put(0, 49, 300));
        Check.due("a full file after refused puts", house.digest(0), digest);
        Check.due("its length", house.length(0), 48);
    }

    private static void setsBytes() {
        DeltaNights house = new DeltaNights();
        Check.write(house, 3, 1, 2, 3);
        Check.due("set(3, 1, 200)", house.set(3, 1, 200), 2);
        Check.due("set(3, 1, 0)", house.set(3, 1, 0), 200);
        Check.due("set(3, 2, 255)", house.set(3, 2, 255), 3);
        Check.due("set(3, 0, 1)", house.set(3, 0, 1), 1);
        Check.dueFile("after sets", house, 3, 1, 0, 255);
    }

    private static void refusesToSet() {
        DeltaNights house = new DeltaNights();
        Check.dueNoPlace("set in an empty file", () -> house.set(0, 0, 0));
        Check.write(house, 0, 1, 2, 3);
        for (int client : BAD_CLIENTS) {
            Check.dueNoClient("set, client " + client, () -> house.set(client, 0, 1));
        }
        Check.dueNoClient("set(0, 0, 256)", () -> house.set(0, 0, 256));
        Check.dueNoClient("set(0, 9, -1)", () -> house.set(0, 9, -1));
        Check.dueNoPlace("set(0, 3, 1)", () -> house.set(0, 3, 1));
        Check.dueNoPlace("set(0, -1, 1)", () -> house.set(0, -1, 1));
        Check.dueFile("after refused sets", house, 0, 1, 2, 3);
    }

    private static void cutsBytes() {
        DeltaNights house = new DeltaNights();
        Check.due("cut nothing out of nothing", house.cut(0, 0, 0), 0);
        Check.write(house, 0, 1, 2, 3, 4, 5, 6);
        Check.due("cut(0, 1, 2)", house.cut(0, 1, 2), 4);
        Check.dueFile("cut between", house, 0, 1, 4, 5, 6);
        Check.due("cut(0, 4, 0)", house.cut(0, 4, 0), 4);
        Check.due("cut(0, 2, 2)", house.cut(0, 2, 2), 2);
        Check.dueFile("cut at the end", house, 0, 1, 4);
        Check.due("cut(0, 0, 1)", house.cut(0, 0, 1), 1);
        Check.dueFile("cut ahead", house, 0, 4);
        Check.due("put behind a cut", house.put(0, 1, 9), 2);
        Check.dueFile("put behind a cut", house, 0, 4, 9);
        Check.due("cut all", house.cut(0, 0, 2), 0);
    }

    private static void refusesToCut() {
        DeltaNights house = new DeltaNights();
        Check.write(house, 0, 1, 2, 3);
        for (int client : BAD_CLIENTS) {
            Check.dueNoClient("cut, client " + client, () -> house.cut(client, -1, 1));
        }
        Check.dueNoPlace("cut(0, -1, 0)", () -> house.cut(0, -1, 0));
        Check.dueNoPlace("cut(0, 0, -1)", () -> house.cut(0, 0, -1));
        Check.dueNoPlace("cut(0, 4, 0)", () -> house.cut(0, 4, 0));
        Check.dueNoPlace("cut(0, 3, 1)", () -> house.cut(0, 3, 1));
        Check.dueNoPlace("cut(0, 0, 4)", () -> house.cut(0, 0, 4));
        Check.dueNoPlace("cut very many", () -> house.cut(0, 2, Integer.MAX_VALUE));
        Check.dueNoPlace("cut very far", () -> house.cut(0, Integer.MAX_VALUE, 1));
        Check.dueNoPlace("cut least", () -> house.cut(0, Integer.MIN_VALUE, Integer.MIN_VALUE));
        Check.dueFile("after refused cuts", house, 0, 1, 2, 3);
    }

    private static void copiesBytes() {
        DeltaNights house = new DeltaNights();
        Check.write(house, 0, 1, 2, 3, 4);
        Check.write(house, 1, 9);
        Check.due("copy(0, 1, 2, 1)", house.copy(0, 1, 2, 1), 3);
        Check.dueFile("to another file", house, 1, 9, 2, 3);
        Check.dueFile("from this file", house, 0, 1, 2, 3, 4);
        Check.due("copy(0, 2, 2, 0)", house.copy(0, 2, 2, 0), 6);
        Check.due("copy(0, 0, 6, 0)", house.copy(0, 0, 6, 0), 12);
        Check.dueFile("to itself", house, 0, 1, 2, 3, 4, 3, 4, 1, 2, 3, 4, 3, 4);
        Check.due("copy(0, 12, 0, 1)", house.copy(0, 12, 0, 1), 3);
        Check.due("copy to 24", house.copy(0, 0, 12, 0), 24);
        Check.due("copy to 48", house.copy(0, 0, 24, 0), 48);
        Check.due("copy nothing to a full file", house.copy(1, 0, 0, 0), 48);
        Check.due("copy a full file", house.copy(0, 0, 48, 2), 48);
        Check.due("the same digest", house.digest(2), house.digest(0));
    }

    private static void refusesToCopy() {
        DeltaNights house = new DeltaNights();
        Check.write(house, 0, 1, 2, 3);
        for (int client : BAD_CLIENTS) {
            Check.dueNoClient("copy, client " + client, () -> house.copy(client, 0, 1, 0));
            Check.dueNoClient("copy, other " + client, () -> house.copy(0, -1, 1, client));
        }
        Check.dueNoPlace("copy(0, -1, 0, 1)", () -> house.copy(0, -1, 0, 1));
        Check.dueNoPlace("copy(0, 0, -1, 1)", () -> house.copy(0, 0, -1, 1));
        Check.dueNoPlace("copy(0, 4, 0, 1)", () -> house.copy(0, 4, 0, 1));
        Check.dueNoPlace("copy(0, 1, 3, 1)", () -> house.copy(0, 1, 3, 1));
        Check.dueNoPlace("copy very many", () -> house.copy(0, 3, Integer.MAX_VALUE, 1));
        for (int i = 0; i < 46; i++) {
            house.put(1, 0, 5);
        }
        Check.dueNoState("copy(0, 0, 3, 1)", () -> house.copy(0, 0, 3, 1));
        Check.dueNoPlace("copy(0, 0, 4, 1)", () -> house.copy(0, 0, 4, 1));
        Check.dueNoState("copy(1, 0, 3, 1)", () -> house.copy(1, 0, 3, 1));
        Check.due("after refused copies", house.length(1), 46);
        Check.dueFile("after refused copies", house, 0, 1, 2, 3);
        Check.due("copy(0, 0, 2, 1)", house.copy(0, 0, 2, 1), 48);
    }

    private static void tellsLengthAndBytes() {
        DeltaNights house = new DeltaNights();
        Check.write(house, 3, 11, 12);
        Check.due("length(3)", house.length(3), 2);
        Check.due("at(3, 0)", house.at(3, 0), 11);
        Check.due("at(3, 1)", house.at(3, 1), 12);
        Check.dueNoPlace("at(3, 2)", () -> house.at(3, 2));
        Check.dueNoPlace("at(3, -1)", () -> house.at(3, -1));
        Check.dueNoPlace("at(0, 0)", () -> house.at(0, 0));
        house.cut(3, 1, 1);
        Check.dueNoPlace("at(3, 1) behind a cut", () -> house.at(3, 1));
        for (int client : BAD_CLIENTS) {
            Check.dueNoClient("length", () -> house.length(client));
            Check.dueNoClient("at", () -> house.at(client, -1));
            Check.dueNoClient("digest", () -> house.digest(client));
        }
    }

    private static void digests() {
        DeltaNights house = new DeltaNights();
        Check.write(house, 0, 200);
        Check.due("digest of 200", house.digest(0), 200);
        Check.write(house, 0, 3);
        Check.due("digest of 200, 3", house.digest(0), 200 * 32 + 3);
        Check.write(house, 0, 255);
        Check.due("digest of 200, 3, 255", house.digest(0), ((200 * 32 + 3) * 32L) ^ 255);

        // 13 bytes: the first one has been taken 60 places up, its upper four bits have come round.
        Check.write(house, 1, 0xA6, 0, 0, 0, 0, 0, 0, 0, 0, 0, 0, 0, 0);
        Check.due("digest that comes round", house.digest(1), 0x6000_0000_0000_000AL);

        Check.write(house, 2, 25, 50, 100, 200);
        house.copy(2, 0, 4, 2);
        house.copy(2, 0, 8, 2);
        house.copy(2, 0, 16, 2);
        house.copy(2, 0, 16, 2);
        Check.due("digest of 48 bytes", house.digest(2), -9219840112227761012L);
    }
}
