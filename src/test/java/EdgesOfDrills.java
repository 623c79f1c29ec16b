/** The edges that promises 31 to 39 name, and 'Bringing back, drills, promises' in the terms. */
final class EdgesOfDrills {

    private static final int[] BAD_CLIENTS = EdgesOfFiles.BAD_CLIENTS;

    private EdgesOfDrills() {
    }

    static void check() {
        whatIsMountedAndRead();
        minutesAtFirst();
        promiseAtFirst();
        drillsOfTheLatestDay();
        minutesBegun();
        setSpeed();
        mounts();
        minutes();
        hourBits();
        promise();
        drill();
        paid();
        owed();
        purse();
    }

    /** A house of chunks of one byte; client 0 asks. */
    private static DeltaNights house() {
        DeltaNights house = Scene.ofChunks(1);
        house.setNight(500, 1);
        house.bid(0, 1);
        return house;
    }

    /** Client 0 has a day of so many unlike chunks of one byte, all in one base. */
    private static DeltaNights houseOfDay(int chunks) {
        DeltaNights house = house();
        for (int i = 0; i < chunks; i++) {
            house.put(0, i, i);
        }
        house.night();
        return house;
    }

    private static void whatIsMountedAndRead() {
        Edge.ofTerms("To bring a day back, its own link is mounted, and each link of its chain that holds a"
                + " chunk of its row; what is read is one byte for each chunk of the row, and the bytes of"
                + " each unlike chunk of it once.");
        DeltaNights house = house();
        house.setSpeed(0, 1);
        house.night();
        Check.due("no chunk: its own link alone", house.mounts(0, 0), 1);
        Check.dueFloat("no chunk: no byte", house.minutes(0, 0), 0f);
        Check.write(house, 0, 1, 2);
        house.night();
        Check.due("the base holds no chunk", house.mounts(0, 1), 1);
        Check.dueFloat("two chunks", house.minutes(0, 1), 4f);
        Check.write(house, 0, 3, 3, 1);
        house.night();
        Check.due("two links", house.mounts(0, 2), 2);
        Check.dueFloat("1 2 3 3 1", house.minutes(0, 2), 5f + 3f);
        house.cut(0, 0, 2);
        house.cut(0, 2, 1);
        house.night();
        Check.due("its own link, though it holds none, and the one ahead", house.mounts(0, 3), 2);
        Check.dueFloat("3 3", house.minutes(0, 3), 2f + 1f);
        Check.due("a link behind is not mounted", house.mounts(0, 1), 1);
        house.setChain(0, 0, 50);
        house.night();
        Check.due("a base anew", house.mounts(0, 4), 1);
        house.put(0, 0, 1);
        house.night();
        Check.due("no link of the old chain", house.mounts(0, 5), 1);
        Check.due("as ahead of the base anew", house.mounts(0, 2), 2);
    }

    private static void minutesAtFirst() {
        Edge.ofTerms("The minutes that this takes are those for mounting, 5 at first, times the links that are"
                + " mounted, and the bytes that are read, divided by the speed, 4 at first, as floats: the"
                + " first product as a float, and the quotient of both floats, added.");
        DeltaNights house = houseOfDay(1);
        Check.dueFloat("5, and 2 by 4", house.minutes(0, 0), 5.5f);
        house.put(0, 1, 9);
        house.night();
        Check.dueFloat("10, and 4 by 4", house.minutes(0, 1), 11f);
        for (int speed = 1; speed <= 50; speed++) {
            house.setSpeed(0, speed);
            Check.dueFloat("2 by " + speed, house.minutes(0, 0), 2f / (float) speed);
            house.setSpeed(30, speed);
            Check.dueFloat("60, and 4 by " + speed, house.minutes(0, 1), 60f + 4f / (float) speed);
        }
    }

    /** The coin is 0 until it is set with the minutes, so that the 60 minutes themselves can't be seen. */
    private static void promiseAtFirst() {
        Edge.ofTerms("A client has a promise: some minutes, 60 at first, and a coin, 0 at first.");
        DeltaNights house = houseOfDay(48);
        house.setSpeed(30, 1);
        Check.dueFloat("126 minutes", house.minutes(0, 0), 126f);
        Check.due("the coin is 0 at first", house.drill(0), 0);
        Check.due("owed(0)", house.owed(0), 0);
        house.promise(0, 60, 1);
        Check.due("of a coin of 1 it would be 66", house.drill(0), 66);
        DeltaNights other = houseOfDay(48);
        other.setSpeed(30, 1);
        other.promise(1, 0, 100);
        Check.due("another client's promise", other.drill(0), 0);
    }

    private static void drillsOfTheLatestDay() {
        Edge.ofTerms("A drill brings the client's latest day back.");
        DeltaNights house = houseOfDay(4);
        house.setSpeed(0, 1);
        house.promise(0, 0, 1);
        Check.due("the first day", house.drill(0), 8);
        house.cut(0, 1, 3);
        Check.due("the day, not the file", house.drill(0), 8);
        house.night();
        Check.due("the latest day", house.drill(0), 2);
        house.night();
        Check.due("a night without a link leaves it", house.drill(0), 2);
        Check.due("the file is as before", house.length(0), 1);
    }

    private static void minutesBegun() {
        Edge.ofTerms("If that takes more minutes than promised, the client is paid the coin for each minute"
                + " that it takes more, the last one begun counted as a whole.");
        // Two bytes by a speed of 50 are 0.04 minutes; by 1 they are two.
        int[][] rows = {{10, 50, 9, 2}, {10, 50, 10, 1}, {10, 50, 11, 0}, {10, 1, 11, 1}, {10, 1, 12, 0},
            {10, 1, 13, 0}, {10, 1, 0, 12}, {0, 50, 0, 1}, {0, 2, 0, 1}, {0, 2, 1, 0}, {0, 3, 0, 1},
            {0, 1, 1, 1}, {0, 1, 2, 0}, {30, 1, 600, 0}, {30, 50, 30, 1}, {30, 50, 31, 0}, {30, 4, 30, 1}};
        for (int[] row : rows) {
            DeltaNights house = houseOfDay(1);
            house.setSpeed(row[0], row[1]);
            house.promise(0, row[2], 7);
            Check.due("setSpeed(" + row[0] + ", " + row[1] + "), promised " + row[2], house.drill(0), 7 * row[3]);
        }
        DeltaNights nothing = houseOfDay(0);
        nothing.setSpeed(0, 50);
        nothing.promise(0, 0, 100);
        Check.due("0 minutes, promised 0", nothing.drill(0), 0);
    }

    private static void setSpeed() {
        Edge.of(31, "Sets how long bringing back takes.");
        DeltaNights house = houseOfDay(3);
        house.setSpeed(2, 3);
        Check.dueFloat("of days gone by too", house.minutes(0, 0), 2f + 2f);
        house.night();
        house.setSpeed(3, 2);
        Check.dueFloat("set anew", house.minutes(0, 0), 3f + 3f);

        Edge.of(31, "- `mount`: 0 to 30 minutes");
        house.setSpeed(0, 1);
        Check.dueFloat("a mount of 0", house.minutes(0, 0), 6f);
        house.setSpeed(30, 1);
        Check.dueFloat("a mount of 30", house.minutes(0, 0), 36f);
        for (int mount : new int[] {-1, 31, Integer.MIN_VALUE, Integer.MAX_VALUE}) {
            Scene.allRefuse(Call.ARGUMENT, "setSpeed", mount, 3);
        }

        Edge.of(31, "- `speed`: 1 to 50 bytes a minute");
        house.setSpeed(0, 50);
        Check.dueFloat("a speed of 50", house.minutes(0, 0), 6f / 50f);
        for (int speed : new int[] {0, 51, -1, Integer.MIN_VALUE, Integer.MAX_VALUE}) {
            Scene.allRefuse(Call.ARGUMENT, "setSpeed", 7, speed);
        }

        Edge.of(31, "Throws `IllegalArgumentException` if mount or speed is out of range");
        int[][] bad = {{-1, 0}, {31, 51}, {0, 0}, {30, 51}, {-1, 1}, {31, 50}, {30, 0}, {0, 51}};
        for (int[] row : bad) {
            Scene.allRefuse(Call.ARGUMENT, "setSpeed", row);
        }
    }

    /** The exceptions of a call of a client and a night, in each scene. */
    private static void dueRefusals(int promise, String name) {
        Edge.of(promise, "Throws `IllegalArgumentException` if client is out of range");
        for (int client : BAD_CLIENTS) {
            for (int night : new int[] {0, -1, 4, 5, 59, 60}) {
                Scene.allRefuse(Call.ARGUMENT, name, client, night);
            }
        }

        Edge.of(promise, "Throws `IndexOutOfBoundsException` if no such night has gone by");
        for (int client = 0; client < 4; client++) {
            for (int night : new int[] {-1, 60, 61, Integer.MIN_VALUE, Integer.MAX_VALUE}) {
                Scene.allRefuse(Call.INDEX, name, client, night);
            }
            Scene.FRESH.refuses(Call.INDEX, name, client, 0);
            Scene.BUSY.refuses(Call.INDEX, name, client, 5);
        }

        Edge.of(promise, "Throws `IllegalStateException` if the client has no day of it");
        for (int client = 0; client < 4; client++) {
            Scene.BUSY.refuses(Call.STATE, name, client, 2);
            Scene.BUSY.refuses(Call.STATE, name, client, 4);
        }
        Scene.BUSY.refuses(Call.STATE, name, 3, 0);
        Scene.FULL.refuses(Call.STATE, name, 2, 0);
        Scene.FULL.refuses(Call.STATE, name, 2, 59);
        Scene.FULL.refuses(Call.STATE, name, 3, 1);
    }

    /** All clients have a day of night 0: of no chunk, and of 1, 2 and 3 chunks. */
    private static DeltaNights houseOfFour() {
        DeltaNights house = house();
        for (int client = 0; client < 4; client++) {
            house.bid(client, 1 + client);
            for (int i = 0; i < client; i++) {
                house.put(client, i, i);
            }
        }
        house.night();
        house.setSpeed(0, 1);
        return house;
    }

    /** 48 nights add a chunk each; in night 48 the row is another one, of the same chunks. */
    private static DeltaNights houseOfLongChain() {
        DeltaNights house = house();
        for (int night = 0; night < 48; night++) {
            house.put(0, night, night);
            house.night();
        }
        house.cut(0, 0, 1);
        house.put(0, 47, 0);
        house.night();
        return house;
    }

    private static void mounts() {
        Edge.of(32, "Returns how many links are mounted to bring a day back.");
        DeltaNights house = houseOfLongChain();
        for (int night = 0; night < 48; night++) {
            Check.due("mounts(0, " + night + ")", house.mounts(0, night), night + 1);
        }
        Check.due("held(0, 48)", house.held(0, 48), 0);
        Check.due("48 links, and its own", house.mounts(0, 48), 49);

        Edge.of(32, "- `client`: 0 to 3");
        DeltaNights four = houseOfFour();
        for (int client = 0; client < 4; client++) {
            Check.due("mounts(" + client + ", 0)", four.mounts(client, 0), 1);
        }
        dueRefusals(32, "mounts");
    }

    private static void minutes() {
        Edge.of(33, "Returns the minutes that it takes to bring a day back.");
        DeltaNights house = houseOfLongChain();
        house.setSpeed(30, 1);
        Check.dueFloat("the longest", house.minutes(0, 48), 30f * 49f + 96f);
        house.setSpeed(0, 50);
        Check.dueFloat("96 by 50", house.minutes(0, 48), 96f / 50f);
        DeltaNights empty = houseOfDay(0);
        Check.dueFloat("5 for its own link", empty.minutes(0, 0), 5f);
        empty.setSpeed(0, 50);
        Check.dueFloat("the shortest", empty.minutes(0, 0), 0f);

        Edge.of(33, "- `client`: 0 to 3");
        DeltaNights four = houseOfFour();
        for (int client = 0; client < 4; client++) {
            Check.dueFloat("minutes(" + client + ", 0)", four.minutes(client, 0), 2f * client);
        }
        dueRefusals(33, "minutes");
    }

    private static void hourBits() {
        Edge.of(34, "Returns the bits of these minutes, divided by 60 as a float: its hours.");
        int[][] speeds = {{30, 1}, {0, 50}, {0, 1}, {5, 4}, {30, 50}, {29, 7}, {1, 49}, {7, 3}};
        for (int[] speed : speeds) {
            DeltaNights house = houseOfLongChain();
            house.setSpeed(speed[0], speed[1]);
            for (int night = 0; night < 49; night++) {
                Check.due("hourBits(0, " + night + ")", house.hourBits(0, night),
                        Float.floatToIntBits(house.minutes(0, night) / 60f));
            }
        }
        DeltaNights empty = houseOfDay(0);
        empty.setSpeed(0, 50);
        Check.due("no minute", empty.hourBits(0, 0), 0);
        empty.setSpeed(30, 50);
        Check.due("half an hour", empty.hourBits(0, 0), 0x3F000000);
        empty.setSpeed(15, 50);
        Check.due("a quarter of an hour", empty.hourBits(0, 0), 0x3E800000);
        empty.setSpeed(1, 50);
        Check.due("a minute", empty.hourBits(0, 0), 0x3C888889);
        DeltaNights hours = houseOfLongChain();
        hours.setSpeed(30, 4);
        Check.due("24.9 hours", hours.hourBits(0, 48), Float.floatToIntBits(1494f / 60f));

        Edge.of(34, "- `client`: 0 to 3");
        DeltaNights four = houseOfFour();
        for (int client = 0; client < 4; client++) {
            Check.due("hourBits(" + client + ", 0)", four.hourBits(client, 0),
                    Float.floatToIntBits(2f * client / 60f));
        }
        dueRefusals(34, "hourBits");
    }

    private static void promise() {
        Edge.of(35, "Sets the promise of a client.");
        DeltaNights house = houseOfFour();
        house.promise(2, 1, 10);
        int[] paid = {0, 0, 30, 0};
        for (int client = 0; client < 4; client++) {
            Check.due("drill(" + client + ")", house.drill(client), paid[client]);
        }

        Edge.of(35, "- `client`: 0 to 3");
        DeltaNights four = houseOfFour();
        for (int client = 0; client < 4; client++) {
            four.promise(client, 1, 1 + client);
        }
        int[] due = {0, 2, 9, 20};
        for (int client = 0; client < 4; client++) {
            Check.due("drill(" + client + ")", four.drill(client), due[client]);
        }
        for (int client : BAD_CLIENTS) {
            Scene.allRefuse(Call.ARGUMENT, "promise", client, 0, 100);
        }

        Edge.of(35, "- `minutes`: 0 to 600");
        DeltaNights many = houseOfLongChain();
        many.setSpeed(30, 1);
        many.promise(0, 0, 1);
        Check.due("0 of 1566", many.drill(0), 1566);
        many.promise(0, 600, 1);
        Check.due("600 of 1566", many.drill(0), 966);
        for (int minutes : new int[] {-1, 601, Integer.MIN_VALUE, Integer.MAX_VALUE}) {
            for (int client = 0; client < 4; client++) {
                Scene.allRefuse(Call.ARGUMENT, "promise", client, minutes, 6);
            }
        }

        Edge.of(35, "- `coin`: 0 to 100");
        many.promise(0, 600, 100);
        Check.due("a coin of 100", many.drill(0), 96600);
        many.promise(0, 600, 0);
        Check.due("a coin of 0", many.drill(0), 0);
        for (int coin : new int[] {-1, 101, Integer.MIN_VALUE, Integer.MAX_VALUE}) {
            for (int client = 0; client < 4; client++) {
                Scene.allRefuse(Call.ARGUMENT, "promise", client, 4, coin);
            }
        }

        Edge.of(35, "Throws `IllegalArgumentException` if client, minutes or coin is out of range");
        int[][] bad = {{-1, 0}, {0, -1}, {601, 0}, {0, 101}, {601, 101}, {-1, -1}, {600, 101}, {601, 100}};
        for (int[] row : bad) {
            for (int client = -1; client <= 4; client++) {
                Scene.allRefuse(Call.ARGUMENT, "promise", client, row[0], row[1]);
            }
        }
    }

    private static void drill() {
        Edge.of(36, "Does a drill.");
        DeltaNights house = houseOfDay(2);
        house.promise(0, 0, 3);
        house.drill(0);
        Check.due("it is paid", house.owed(0), 18);
        house.drill(0);
        Check.due("each time", house.owed(0), 36);
        Check.due("no night goes by", house.nights(), 1);

        Edge.of(36, "- `client`: 0 to 3");
        DeltaNights four = houseOfFour();
        for (int client = 0; client < 4; client++) {
            four.promise(client, 0, 1);
            Check.due("drill(" + client + ")", four.drill(client), 2 * client);
        }

        Edge.of(36, "Returns what the client is paid.");
        DeltaNights most = houseOfLongChain();
        most.setSpeed(30, 1);
        most.promise(0, 0, 100);
        Check.due("the most", most.drill(0), 156600);
        most.promise(0, 600, 0);
        Check.due("the least", most.drill(0), 0);

        Edge.of(36, "Throws `IllegalArgumentException` if client is out of range");
        for (int client : BAD_CLIENTS) {
            Scene.allRefuse(Call.ARGUMENT, "drill", client);
        }

        Edge.of(36, "Throws `IllegalStateException` if it has no day");
        for (int client = 0; client < 4; client++) {
            Scene.FRESH.refuses(Call.STATE, "drill", client);
        }
        Scene.FULL.refuses(Call.STATE, "drill", 2);
        DeltaNights later = house();
        later.bid(0, 0);
        later.night();
        later.promise(0, 0, 100);
        Check.dueText("a night without a link", Call.answer(later, "drill", 0), Call.STATE);
        Check.due("owed(0)", later.owed(0), 0);
        later.bid(0, 1);
        later.night();
        Check.due("a day of no byte is a day", later.drill(0), 500);
    }

    private static void paid() {
        Edge.of(37, "Returns what a client has paid for its links so far.");
        DeltaNights house = Scene.ofChunks(1);
        Check.due("nothing", house.paid(0), 0);
        for (int i = 0; i < 48; i++) {
            house.put(0, i, i);
        }
        house.copy(0, 0, 48, 1);
        house.bid(0, 100);
        house.bid(1, 100);
        house.setNight(191, 50);
        house.setChain(0, 0, 50);
        for (int night = 0; night < 60; night++) {
            house.night();
            Check.due("the most, in night " + night, house.paid(0), 9600 * (night + 1));
        }
        Check.due("who is not served pays nothing", house.paid(1), 0);
        house.promise(0, 0, 100);
        house.drill(0);
        Check.due("a drill changes nothing of it", house.paid(0), 576000);

        Edge.of(37, "- `client`: 0 to 3");
        DeltaNights four = houseOfFour();
        for (int client = 0; client < 4; client++) {
            Check.due("paid(" + client + ")", four.paid(client), 2 * client);
        }

        Edge.of(37, "Throws `IllegalArgumentException` if client is out of range");
        for (int client : BAD_CLIENTS) {
            Scene.allRefuse(Call.ARGUMENT, "paid", client);
        }
    }

    private static void owed() {
        Edge.of(38, "Returns what a client was paid for broken promises so far.");
        DeltaNights house = houseOfLongChain();
        Check.due("nothing", house.owed(0), 0);
        house.setSpeed(30, 1);
        house.promise(0, 0, 100);
        for (int drill = 1; drill <= 300; drill++) {
            house.drill(0);
        }
        Check.due("the most, 300 times", house.owed(0), 46980000);
        house.promise(0, 600, 0);
        house.drill(0);
        Check.due("a promise that is kept changes nothing of it", house.owed(0), 46980000);

        Edge.of(38, "- `client`: 0 to 3");
        DeltaNights four = houseOfFour();
        for (int client = 0; client < 4; client++) {
            four.promise(client, 1, 1);
            Call.answer(four, "drill", client);
        }
        int[] owed = {0, 1, 3, 5};
        for (int client = 0; client < 4; client++) {
            Check.due("owed(" + client + ")", four.owed(client), owed[client]);
        }

        Edge.of(38, "Throws `IllegalArgumentException` if client is out of range");
        for (int client : BAD_CLIENTS) {
            Scene.allRefuse(Call.ARGUMENT, "owed", client);
        }
    }

    private static void purse() {
        Edge.of(39, "Returns what the house has got, less what it paid.");
        DeltaNights house = new DeltaNights();
        Check.due("nothing", house.purse(), 0);
        DeltaNights four = houseOfFour();
        Check.due("of all clients", four.purse(), 12);
        four.promise(3, 0, 2);
        four.drill(3);
        Check.due("as much as it got", four.purse(), 0);
        four.promise(1, 1, 1);
        four.drill(1);
        Check.due("below 0", four.purse(), -1);
        DeltaNights most = houseOfLongChain();
        int got = most.purse();
        Check.due("it got", got, most.paid(0));
        most.setSpeed(30, 1);
        most.promise(0, 0, 100);
        for (int drill = 1; drill <= 300; drill++) {
            most.drill(0);
        }
        Check.due("far below 0", most.purse(), got - 46980000);
    }
}
