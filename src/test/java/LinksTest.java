/** Promises 22 to 30: links, days, and bringing them back. */
public final class LinksTest {

    private static final int[] BAD_CLIENTS = {-1, 4, Integer.MIN_VALUE, Integer.MAX_VALUE};

    public static void main(String[] args) {
        tellsWhatWasGot();
        tellsDays();
        tellsChains();
        tellsBytesAndHeldChunks();
        tellsLengthsOfDays();
        digestsDays();
        restoresDays();
        countsChangedPlaces();
        refusesInOrder();
        Check.close("LinksTest");
    }

    /** Client 0 gets a base, nothing, a difference and a base; client 1 gets a base in night 1. */
    private static DeltaNights houseOfFourNights() {
        DeltaNights house = new DeltaNights();
        house.setMarks(0, 2, 2);
        Check.write(house, 0, 1, 2, 3, 4, 1, 2);
        house.bid(0, 3);
        house.night();
        house.bid(1, 4);
        Check.write(house, 1, 5);
        house.night();
        house.set(0, 0, 9);
        Check.write(house, 0, 9, 2, 7);
        house.night();
        house.setChain(0, 1, 1);
        house.cut(0, 0, 8);
        house.night();
        return house;
    }

    private static void tellsWhatWasGot() {
        DeltaNights house = houseOfFourNights();
        int[] got = {1, 0, 2, 1};
        for (int night = 0; night < 4; night++) {
            Check.due("got(0, " + night + ")", house.got(0, night), got[night]);
            Check.due("got(1, " + night + ")", house.got(1, night), night == 1 ? 1 : 0);
            Check.due("got(3, " + night + ")", house.got(3, night), 0);
        }
    }

    private static void tellsDays() {
        DeltaNights house = houseOfFourNights();
        int[] days = {0, 0, 2, 3};
        for (int night = 0; night < 4; night++) {
            Check.due("dayOf(0, " + night + ")", house.dayOf(0, night), days[night]);
            Check.due("dayOf(1, " + night + ")", house.dayOf(1, night), night == 0 ? -1 : 1);
            Check.due("dayOf(2, " + night + ")", house.dayOf(2, night), -1);
        }
    }

    private static void tellsChains() {
        DeltaNights house = new DeltaNights();
        house.bid(2, 1);
        Check.due("no chain", house.chain(2), -1);
        house.night();
        Check.due("a base", house.chain(2), 0);
        house.put(2, 0, 1);
        house.night();
        house.put(2, 0, 2);
        house.night();
        Check.due("two differences", house.chain(2), 2);
        house.night();
        Check.due("a night without a link", house.chain(2), 2);
        house.setChain(2, 2, 1);
        house.night();
        Check.due("a base anew", house.chain(2), 0);
        house.put(2, 0, 3);
        house.night();
        Check.due("a difference on it", house.chain(2), 1);
        Check.due("another client", house.chain(1), -1);
        for (int client : BAD_CLIENTS) {
            Check.dueNoClient("chain", () -> house.chain(client));
        }
    }

    private static void tellsBytesAndHeldChunks() {
        DeltaNights house = houseOfFourNights();
        Check.due("bytes(0, 0): a chunk twice", house.bytes(0, 0), 3 + 4);
        Check.due("held(0, 0)", house.held(0, 0), 2);
        Check.due("bytes(1, 1)", house.bytes(1, 1), 2);
        Check.due("held(1, 1)", house.held(1, 1), 1);
        Check.due("bytes(0, 2): a new chunk twice, and the last one", house.bytes(0, 2), 5 + 3);
        Check.due("held(0, 2)", house.held(0, 2), 2);
        Check.due("bytes(0, 3): a base holds what the old chain held", house.bytes(0, 3), 2);
        Check.due("held(0, 3)", house.held(0, 3), 1);
        Check.due("paid(0)", house.paid(0), 7 + 8 + 2);
    }

    private static void tellsLengthsOfDays() {
        DeltaNights house = houseOfFourNights();
        Check.due("lengthOf(0, 0)", house.lengthOf(0, 0), 6);
        Check.due("lengthOf(0, 2)", house.lengthOf(0, 2), 9);
        Check.due("lengthOf(0, 3)", house.lengthOf(0, 3), 1);
        Check.due("lengthOf(1, 1)", house.lengthOf(1, 1), 1);
        DeltaNights other = new DeltaNights();
        other.bid(0, 1);
        other.night();
        Check.due("lengthOf an empty day", other.lengthOf(0, 0), 0);
        for (int i = 0; i < 48; i++) {
            other.put(0, i, i);
        }
        other.night();
        Check.due("lengthOf a full day", other.lengthOf(0, 1), 48);
    }

    private static void digestsDays() {
        DeltaNights house = new DeltaNights();
        house.setMarks(0, 3, 3);
        house.setNight(500, 1);
        house.bid(0, 1);
        house.setChain(0, 4, 1);
        long[] digests = new long[12];
        for (int night = 0; night < 12; night++) {
            Check.write(house, 0, night % 5, night * 7, 255 - night);
            house.set(0, night, 200);
            digests[night] = house.digest(0);
            Check.due("night() " + night, house.night(), 1);
        }
        house.cut(0, 0, 36);
        for (int night = 0; night < 12; night++) {
            Check.due("got(0, " + night + ")", house.got(0, night), night % 5 == 0 ? 1 : 2);
            Check.due("digestOf(0, " + night + ")", house.digestOf(0, night), digests[night]);
            Check.due("digestByChunks(0, " + night + ")", house.digestByChunks(0, night), digests[night]);
        }
        house.night();
        Check.due("digestOf an empty day", house.digestOf(0, 12), 0);
        Check.due("digestByChunks of an empty day", house.digestByChunks(0, 12), 0);
    }

    private static void restoresDays() {
        DeltaNights house = houseOfFourNights();
        Check.due("restore(0, 0)", house.restore(0, 0), 6);
        Check.dueFile("day 0", house, 0, 1, 2, 3, 4, 1, 2);
        Check.due("restore(0, 0) again", house.restore(0, 0), 0);
        Check.due("restore(0, 2)", house.restore(0, 2), 4);
        Check.dueFile("day 2", house, 0, 9, 2, 3, 4, 1, 2, 9, 2, 7);
        Check.due("restore(0, 3)", house.restore(0, 3), 9);
        Check.dueFile("day 3", house, 0, 7);
        Check.due("the day of the same row is wanted no more", house.chain(0), 0);
        house.restore(0, 2);
        Check.due("a day of an old chain is another row", house.would(0), 2);
        Check.dueFile("another client's file", house, 1, 5);
    }

    private static void countsChangedPlaces() {
        DeltaNights house = new DeltaNights();
        house.bid(0, 1);
        house.night();
        Check.write(house, 0, 0, 0, 0);
        house.night();
        Check.due("none where there was one", house.restore(0, 0), 3);
        Check.due("no byte is left", house.length(0), 0);
        Check.due("a 0 where there was none", house.restore(0, 1), 3);
        Check.dueFile("zeros", house, 0, 0, 0, 0);
        house.set(0, 1, 4);
        Check.due("one other byte", house.restore(0, 1), 1);
        house.put(0, 3, 0);
        Check.due("a 0 too many", house.restore(0, 1), 1);
        house.cut(0, 0, 1);
        Check.due("a 0 too few", house.restore(0, 1), 1);
        house.set(0, 0, 5);
        Check.write(house, 0, 1, 2, 3, 4, 5, 6, 7, 8, 9);
        Check.due("one other, nine too many", house.restore(0, 1), 10);
        Check.dueFile("zeros again", house, 0, 0, 0, 0);
    }

    private static void refusesInOrder() {
        DeltaNights house = houseOfFourNights();
        long digest = house.digest(0);
        for (int client : BAD_CLIENTS) {
            Check.dueNoClient("got", () -> house.got(client, 9));
            Check.dueNoClient("dayOf", () -> house.dayOf(client, 9));
            Check.dueNoClient("bytes", () -> house.bytes(client, 9));
            Check.dueNoClient("held", () -> house.held(client, 9));
            Check.dueNoClient("lengthOf", () -> house.lengthOf(client, 9));
            Check.dueNoClient("digestOf", () -> house.digestOf(client, 9));
            Check.dueNoClient("digestByChunks", () -> house.digestByChunks(client, 9));
            Check.dueNoClient("restore", () -> house.restore(client, 9));
        }
        for (int night : new int[] {-1, 4, 60, Integer.MIN_VALUE, Integer.MAX_VALUE}) {
            Check.dueNoPlace("got", () -> house.got(0, night));
            Check.dueNoPlace("dayOf", () -> house.dayOf(0, night));
            Check.dueNoPlace("bytes", () -> house.bytes(0, night));
            Check.dueNoPlace("held", () -> house.held(0, night));
            Check.dueNoPlace("lengthOf", () -> house.lengthOf(0, night));
            Check.dueNoPlace("digestOf", () -> house.digestOf(0, night));
            Check.dueNoPlace("digestByChunks", () -> house.digestByChunks(0, night));
            Check.dueNoPlace("restore", () -> house.restore(0, night));
        }
        Check.dueNoState("bytes", () -> house.bytes(0, 1));
        Check.dueNoState("held", () -> house.held(0, 1));
        Check.dueNoState("lengthOf", () -> house.lengthOf(0, 1));
        Check.dueNoState("digestOf", () -> house.digestOf(0, 1));
        Check.dueNoState("digestByChunks", () -> house.digestByChunks(0, 1));
        Check.dueNoState("restore", () -> house.restore(0, 1));
        Check.dueNoState("restore of one who has no day at all", () -> house.restore(3, 0));
        Check.due("the file after refused calls", house.digest(0), digest);
    }
}
