/** Promises 31 to 39: drills, promises of minutes, and the purse. */
public final class DrillsTest {

    private static final int[] BAD_CLIENTS = {-1, 4, Integer.MIN_VALUE, Integer.MAX_VALUE};

    public static void main(String[] args) {
        setsSpeed();
        countsMounts();
        timesDays();
        tellsBitsOfHours();
        setsPromises();
        paysForBrokenPromises();
        refusesDrills();
        countsWhatIsPaid();
        refusesInOrder();
        Check.close("DrillsTest");
    }

    /** Chunks of two bytes: a base of 1 2, 3 4; then 5 6 behind it; then 3 4, 7 8 alone. */
    private static DeltaNights houseOfThreeNights() {
        DeltaNights house = new DeltaNights();
        house.setMarks(0, 2, 2);
        house.bid(0, 10);
        Check.write(house, 0, 1, 2, 3, 4);
        house.night();
        Check.write(house, 0, 5, 6);
        house.night();
        house.cut(0, 4, 2);
        house.cut(0, 0, 2);
        Check.write(house, 0, 7, 8);
        house.night();
        return house;
    }

    private static void setsSpeed() {
        DeltaNights house = houseOfThreeNights();
        Check.dueFloat("mount 5, speed 4 at first", house.minutes(0, 0), 5f + 6f / 4f);
        house.setSpeed(0, 50);
        Check.dueFloat("setSpeed(0, 50)", house.minutes(0, 0), 6f / 50f);
        house.setSpeed(30, 1);
        Check.dueFloat("setSpeed(30, 1)", house.minutes(0, 0), 36f);
        int[][] bad = {{31, 1}, {-1, 1}, {0, 0}, {0, 51}, {0, -4}, {Integer.MAX_VALUE, 1}};
        for (int[] speed : bad) {
            Check.dueNoClient("setSpeed(" + speed[0] + ", " + speed[1] + ")",
                    () -> house.setSpeed(speed[0], speed[1]));
            Check.dueFloat("minutes after a refused setSpeed", house.minutes(0, 0), 36f);
        }
    }

    private static void countsMounts() {
        DeltaNights house = houseOfThreeNights();
        Check.due("mounts(0, 0)", house.mounts(0, 0), 1);
        Check.due("mounts(0, 1)", house.mounts(0, 1), 2);
        Check.due("mounts(0, 2): the second link holds no chunk of it", house.mounts(0, 2), 2);
        Check.write(house, 0, 5, 6);
        house.night();
        Check.due("mounts(0, 3): all links and one that holds nothing", house.mounts(0, 3), 4);
        Check.due("held(0, 3)", house.held(0, 3), 0);
        house.cut(0, 0, 6);
        house.night();
        Check.due("mounts of an empty day", house.mounts(0, 4), 1);
        house.setChain(0, 4, 50);
        Check.write(house, 0, 1, 2);
        house.night();
        Check.due("got(0, 5)", house.got(0, 5), 1);
        Check.due("mounts of a base anew", house.mounts(0, 5), 1);
        Check.due("mounts(0, 1) as before", house.mounts(0, 1), 2);
    }

    private static void timesDays() {
        DeltaNights house = houseOfThreeNights();
        house.setSpeed(7, 3);
        Check.dueFloat("minutes(0, 0)", house.minutes(0, 0), 7f + 6f / 3f);
        Check.dueFloat("minutes(0, 1)", house.minutes(0, 1), 14f + 9f / 3f);
        Check.dueFloat("minutes(0, 2)", house.minutes(0, 2), 14f + 6f / 3f);
        house.copy(0, 0, 4, 0);
        house.copy(0, 0, 8, 0);
        house.night();
        Check.dueFloat("chunks again and again", house.minutes(0, 3), 21f + (8f + 4f) / 3f);
        house.setSpeed(0, 50);
        Check.dueFloat("no time for mounting", house.minutes(0, 3), 12f / 50f);
        house.setSpeed(11, 7);
        Check.dueFloat("a quotient that is no whole number", house.minutes(0, 2), 22f + 6f / 7f);
        house.cut(0, 0, 16);
        house.night();
        Check.dueFloat("an empty day", house.minutes(0, 4), 11f);
        house.setSpeed(0, 7);
        Check.dueFloat("an empty day, no mounting", house.minutes(0, 4), 0f);
    }

    private static void tellsBitsOfHours() {
        for (int mount = 0; mount <= 30; mount++) {
            DeltaNights house = houseOfFourNights();
            for (int speed = 1; speed <= 50; speed++) {
                house.setSpeed(mount, speed);
                for (int night = 0; night < 4; night++) {
                    Check.due("hourBits(0, " + night + "), setSpeed(" + mount + ", " + speed + ")",
                            house.hourBits(0, night),
                            Float.floatToIntBits(house.minutes(0, night) / 60f));
                }
            }
        }
        DeltaNights house = houseOfFourNights();
        house.setSpeed(5, 4);
        Check.due("5 minutes", house.hourBits(0, 3), 1034594987);
        house.setSpeed(0, 1);
        Check.due("0 minutes", house.hourBits(0, 3), 0);
        house.setSpeed(30, 1);
        Check.due("66 minutes", house.hourBits(0, 2), Float.floatToIntBits(1.1f));
        tellsBitsOfManyHours();
    }

    /** An empty day behind the three nights. */
    private static DeltaNights houseOfFourNights() {
        DeltaNights house = houseOfThreeNights();
        house.cut(0, 0, 4);
        house.night();
        return house;
    }

    /** Each night adds a chunk, so that night n mounts n + 1 links, up to some twenty hours. */
    private static void tellsBitsOfManyHours() {
        DeltaNights house = new DeltaNights();
        house.setMarks(0, 1, 1);
        house.setSpeed(30, 1);
        house.setNight(500, 1);
        house.bid(0, 1);
        for (int night = 0; night < 40; night++) {
            house.put(0, night, night);
            house.night();
            Check.due("mounts", house.mounts(0, night), night + 1);
            Check.dueFloat("minutes", house.minutes(0, night), 32f * (night + 1));
            Check.due("hourBits", house.hourBits(0, night),
                    Float.floatToIntBits(32f * (night + 1) / 60f));
        }
        house.setSpeed(29, 2);
        Check.dueFloat("four hours", house.minutes(0, 7), 240f);
        Check.due("bits of four hours", house.hourBits(0, 7), Float.floatToIntBits(4f));
        Check.dueFloat("one hour", house.minutes(0, 1), 60f);
        Check.due("bits of one hour", house.hourBits(0, 1), Float.floatToIntBits(1f));
    }

    private static void setsPromises() {
        DeltaNights house = houseOfThreeNights();
        house.setSpeed(30, 1);
        Check.due("66 minutes, without a coin", house.drill(0), 0);
        house.promise(0, 60, 7);
        Check.due("66 minutes, promised 60", house.drill(0), 42);
        int[][] bad = {{0, 601, 0}, {0, -1, 0}, {0, 0, 101}, {0, 0, -1}, {4, 0, 0}, {-1, 0, 0}};
        for (int[] promise : bad) {
            Check.dueNoClient("promise(" + promise[0] + ", " + promise[1] + ", " + promise[2] + ")",
                    () -> house.promise(promise[0], promise[1], promise[2]));
            Check.due("drill after a refused promise", house.drill(0), 42);
        }
        house.promise(0, 60, 0);
        Check.due("a coin of 0", house.drill(0), 0);
        house.promise(0, 60, 7);
        house.promise(1, 0, 100);
        Check.due("another client's promise", house.drill(0), 42);
        house.promise(0, 600, 100);
        Check.due("promised 600", house.drill(0), 0);
        house.promise(0, 0, 100);
        Check.due("promised 0", house.drill(0), 6600);
    }

    private static void paysForBrokenPromises() {
        DeltaNights house = houseOfThreeNights();
        house.setSpeed(5, 4);
        Check.dueFloat("minutes", house.minutes(0, 2), 11.5f);
        int[][] due = {{12, 0}, {11, 3}, {10, 6}, {9, 9}, {0, 36}, {600, 0}};
        int sum = 0;
        for (int[] row : due) {
            house.promise(0, row[0], 3);
            Check.due("promised " + row[0], house.drill(0), row[1]);
            sum += row[1];
            Check.due("owed", house.owed(0), sum);
        }
        house.setSpeed(5, 6);
        Check.dueFloat("minutes", house.minutes(0, 2), 11f);
        house.promise(0, 11, 3);
        Check.due("as long as promised", house.drill(0), 0);
        house.promise(0, 10, 3);
        Check.due("a minute more", house.drill(0), 3);
        house.setSpeed(0, 50);
        house.promise(0, 0, 3);
        Check.due("a minute begun", house.drill(0), 3);
        long digest = house.digest(0);
        Check.due("a drill of the latest day, whatever the file is", house.cut(0, 0, 4), 0);
        Check.due("drill", house.drill(0), 3);
        Check.due("a drill leaves the file", house.length(0), 0);
        Check.dueTrue("the day is another one", house.digestOf(0, 2) == digest);

        // The promise of the document at first is 60 minutes: 61 minutes with a coin tell it.
        DeltaNights long1 = new DeltaNights();
        long1.setMarks(0, 1, 1);
        for (int i = 0; i < 16; i++) {
            long1.put(0, i, i);
        }
        long1.bid(0, 1);
        long1.night();
        long1.setSpeed(30, 1);
        Check.dueFloat("62 minutes", long1.minutes(0, 0), 62f);
        Check.due("no coin", long1.drill(0), 0);
        long1.promise(0, 60, 100);
        Check.due("two minutes", long1.drill(0), 200);
    }

    private static void refusesDrills() {
        DeltaNights house = new DeltaNights();
        for (int client : BAD_CLIENTS) {
            Check.dueNoClient("drill", () -> house.drill(client));
        }
        Check.dueNoState("drill without a day", () -> house.drill(0));
        house.night();
        Check.dueNoState("drill without a day behind a night", () -> house.drill(0));
        Check.due("owed", house.owed(0), 0);
        house.bid(0, 1);
        house.night();
        Check.due("drill of an empty day", house.drill(0), 0);
    }

    private static void countsWhatIsPaid() {
        DeltaNights house = houseOfThreeNights();
        Check.due("paid(0)", house.paid(0), 6 + 5 + 4);
        house.bid(2, 20);
        Check.write(house, 2, 1);
        house.night();
        Check.due("paid(2)", house.paid(2), 2);
        Check.due("purse()", house.purse(), 17);
        house.promise(0, 0, 1);
        Check.due("drill(0)", house.drill(0), 12);
        Check.due("paid(0) after a drill", house.paid(0), 15);
        Check.due("owed(0)", house.owed(0), 12);
        Check.due("owed(2)", house.owed(2), 0);
        Check.due("purse()", house.purse(), 5);
        Check.due("drill(0)", house.drill(0), 12);
        Check.due("owed(0)", house.owed(0), 24);
        Check.due("purse() below 0", house.purse(), -7);
        for (int client : BAD_CLIENTS) {
            Check.dueNoClient("paid", () -> house.paid(client));
            Check.dueNoClient("owed", () -> house.owed(client));
        }
    }

    private static void refusesInOrder() {
        DeltaNights house = houseOfThreeNights();
        house.night();
        for (int client : BAD_CLIENTS) {
            Check.dueNoClient("mounts", () -> house.mounts(client, 9));
            Check.dueNoClient("minutes", () -> house.minutes(client, 9));
            Check.dueNoClient("hourBits", () -> house.hourBits(client, 9));
        }
        for (int night : new int[] {-1, 4, Integer.MIN_VALUE, Integer.MAX_VALUE}) {
            Check.dueNoPlace("mounts", () -> house.mounts(0, night));
            Check.dueNoPlace("minutes", () -> house.minutes(0, night));
            Check.dueNoPlace("hourBits", () -> house.hourBits(0, night));
        }
        Check.dueNoState("mounts", () -> house.mounts(0, 3));
        Check.dueNoState("minutes", () -> house.minutes(0, 3));
        Check.dueNoState("hourBits", () -> house.hourBits(0, 3));
    }
}
