/** What 'What it is' says of how long an object is used, and the terms of calls that throw. */
final class EdgesOfUse {

    private static final int CALLS = 512;

    private EdgesOfUse() {
    }

    static void check() {
        aBackupHouse();
        whatCallersDo();
        whenACallThrows();
        manyRefusedCalls();
        lastCallOfEach();
        lastCallsOfADearRun();
    }

    /** The first sentence of the document, part by part, in one house. */
    private static void aBackupHouse() {
        DeltaNights house = new DeltaNights();
        Edge.ofTerms("files of bytes that are cut into chunks where a rolling mark tells,");
        for (int place = 0; place < 48; place++) {
            house.put(0, place, place * place * 5 % 256);
        }
        house.setMarks(2, 1, 24);
        dueEndsWhereMarksTell(house, 0, 2);

        Edge.ofTerms("chains of differences on bases,");
        house.bid(0, 9);
        int[] got = {1, 2, 2};
        for (int night = 0; night < 3; night++) {
            house.set(0, 20, 200 + night);
            Check.due("served in night " + night, house.night(), 1);
            Check.due("got in night " + night, house.got(0, night), got[night]);
            Check.due("chain behind night " + night, house.chain(0), night);
        }

        Edge.ofTerms("nights whose bytes are sold by bids,");
        house.set(0, 20, 203);
        house.put(1, 0, 1);
        house.bid(1, 7);
        house.setNight(house.forDifference(0) + 1, 0);
        int paid = house.paid(0);
        Check.due("served in night 3", house.night(), 1);
        Check.due("paid by who bids 9", house.paid(0) - paid, 7 * house.bytes(0, 3));
        Check.due("paid by who bids 7", house.paid(1), 0);

        Edge.ofTerms("bases that are made anew when a chain is long and the night is cheap,");
        int[][] rows = {{4, 3, 2}, {3, 4, 2}, {3, 3, 1}};
        for (int[] row : rows) {
            house.setChain(0, row[0], 3);
            house.setNight(500, row[1]);
            house.set(0, 20, 204 + row[0]);
            String when = "a bound of " + row[0] + ", a reserve of " + row[1] + ": would(0)";
            Check.due(when, house.would(0), row[2]);
        }

        Edge.ofTerms("drills that time how long a day takes to bring back, and promises of minutes that are"
                + " paid when they are broken.");
        for (int minutes = 0; minutes < 60; minutes++) {
            house.promise(0, minutes, 2);
            double more = Math.max(Math.ceil(house.minutes(0, 3)) - minutes, 0);
            Check.due("a drill, promised are " + minutes, house.drill(0), (int) more * 2);
        }
        Check.dueTrue("some promises are broken, some are not", house.minutes(0, 3) > 1
                && house.minutes(0, 3) < 59);
    }

    /** With a least of 1: each chunk ends at a mark, at 24 bytes or with the file, and nowhere else. */
    private static void dueEndsWhereMarksTell(DeltaNights house, int client, int bits) {
        int chunk = 0;
        int start = 0;
        int marked = 0;
        int length = house.length(client);
        for (int place = 0; place < length; place++) {
            boolean isMarked = house.mark(client, place) % (1 << bits) == 0;
            if (isMarked || place + 1 - start == 24 || place + 1 == length) {
                Check.due("end(" + client + ", " + chunk + ")", house.end(client, chunk), place + 1);
                marked += isMarked ? 1 : 0;
                start = place + 1;
                chunk++;
            }
        }
        Check.due("chunks(" + client + ")", house.chunks(client), chunk);
        Check.dueTrue("some chunks end at marks", marked > 3);
        house.copy(client, length - 4, 4, 3);
        Check.due("a mark of the last four bytes alone", house.mark(3, 3), house.mark(client, length - 1));
    }

    private static void whatCallersDo() {
        Edge.ofTerms("Callers write files, bid, let nights go by, promise and drill, and ask; a day is brought"
                + " back from the links of its chain, and from the chunks alone.");
        DeltaNights house = new DeltaNights();
        int days = 12;
        long[] digests = new long[days];
        int[][] files = new int[days][];
        house.setChain(0, 2, 50);
        house.bid(0, 9);
        for (int night = 0; night < days; night++) {
            house.put(0, night / 2, night * 37 % 256);
            house.put(0, house.length(0), night * night % 256);
            files[night] = new int[house.length(0)];
            for (int place = 0; place < files[night].length; place++) {
                files[night][place] = house.at(0, place);
            }
            digests[night] = house.digest(0);
            Check.due("served in night " + night, house.night(), 1);
        }
        Check.due("chain(0)", house.chain(0), 2);
        for (int night = days - 1; night >= 0; night--) {
            Check.due("digestOf(0, " + night + ")", house.digestOf(0, night), digests[night]);
            Check.due("digestByChunks(0, " + night + ")", house.digestByChunks(0, night), digests[night]);
            house.restore(0, night);
            Check.due("digest(0) of day " + night, house.digest(0), digests[night]);
            for (int place = 0; place < files[night].length; place++) {
                Check.due("at(0, " + place + ") of day " + night, house.at(0, place), files[night][place]);
            }
        }
    }

    /** Calls in which more than one thing is wrong; those of one fault stand with the promises. */
    private static void whenACallThrows() {
        Edge.ofTerms("When a call throws, nothing has changed; of several exceptions it is the first one of"
                + " the throws clause.");
        int[][] indexAheadOfState = {{0, -1}, {0, 60}, {2, -1}, {2, 60}};
        String[] daily = {"bytes", "held", "lengthOf", "digestOf", "digestByChunks", "restore", "mounts",
            "minutes", "hourBits"};
        for (String name : daily) {
            for (int[] row : indexAheadOfState) {
                Scene.allRefuse(Call.INDEX, name, row);
            }
            Scene.FRESH.refuses(Call.INDEX, name, 0, 0);
            Scene.allRefuse(Call.ARGUMENT, name, 4, -1);
            Scene.allRefuse(Call.ARGUMENT, name, -1, 60);
            Scene.FULL.refuses(Call.ARGUMENT, name, 4, 0);
        }
        for (String name : new String[] {"got", "dayOf", "at", "mark", "end"}) {
            Scene.allRefuse(Call.ARGUMENT, name, 4, -1);
            Scene.allRefuse(Call.ARGUMENT, name, -1, 60);
        }
        Scene.FRESH.refuses(Call.ARGUMENT, "forDifference", 4);
        Scene.FRESH.refuses(Call.ARGUMENT, "forDifference", -1);
        Scene.FRESH.refuses(Call.ARGUMENT, "drill", 4);
        Scene.FRESH.refuses(Call.ARGUMENT, "drill", -1);
        Scene.FULL.refuses(Call.ARGUMENT, "put", 4, 49, 0);
        Scene.FULL.refuses(Call.ARGUMENT, "put", 0, 49, 256);
        Scene.FULL.refuses(Call.ARGUMENT, "put", 0, 48, -1);
        Scene.FULL.refuses(Call.INDEX, "put", 0, 49, 0);
        Scene.FULL.refuses(Call.INDEX, "put", 0, -1, 255);
        Scene.allRefuse(Call.ARGUMENT, "set", 0, -1, 256);
        Scene.allRefuse(Call.ARGUMENT, "set", 4, 48, 0);
        Scene.allRefuse(Call.ARGUMENT, "cut", 4, -1, -1);
        Scene.FULL.refuses(Call.ARGUMENT, "copy", 4, 0, 48, 0);
        Scene.FULL.refuses(Call.ARGUMENT, "copy", 0, 0, 49, 4);
        Scene.FULL.refuses(Call.INDEX, "copy", 0, 0, 49, 1);
        Scene.FULL.refuses(Call.INDEX, "copy", 0, 47, 2, 0);
        Scene.FULL.refuses(Call.INDEX, "copy", 0, -1, 2, 0);
        Scene.BUSY.refuses(Call.INDEX, "copy", 0, 0, 21, 1);
        Scene.BUSY.refuses(Call.STATE, "copy", 0, 0, 20, 1);
    }

    /** All kinds of refused calls one behind the other leave a house as it is. */
    private static void manyRefusedCalls() {
        DeltaNights house = Scene.BUSY.make();
        String[] ofClient = {"length", "digest", "chunks", "forBase", "forDifference", "would", "chain",
            "drill", "paid", "owed"};
        for (String name : ofClient) {
            Check.dueText(name, Call.answer(house, name, 4), Call.ARGUMENT);
        }
        String[] ofNight = {"got", "dayOf", "bytes", "held", "lengthOf", "digestOf", "digestByChunks",
            "restore", "mounts", "minutes", "hourBits"};
        for (String name : ofNight) {
            Check.dueText(name, Call.answer(house, name, 0, 5), Call.INDEX);
        }
        Check.dueText("put", Call.answer(house, "put", 0, 0, 256), Call.ARGUMENT);
        Check.dueText("put", Call.answer(house, "put", 0, 21, 0), Call.INDEX);
        Check.dueText("set", Call.answer(house, "set", 0, 20, 0), Call.INDEX);
        Check.dueText("cut", Call.answer(house, "cut", 0, 0, 21), Call.INDEX);
        Check.dueText("copy", Call.answer(house, "copy", 0, 0, 4, 1), Call.STATE);
        Check.dueText("setMarks", Call.answer(house, "setMarks", 0, 1, 25), Call.ARGUMENT);
        Check.dueText("setNight", Call.answer(house, "setNight", 0, 51), Call.ARGUMENT);
        Check.dueText("bid", Call.answer(house, "bid", 0, 101), Call.ARGUMENT);
        Check.dueText("setChain", Call.answer(house, "setChain", 0, 0, 51), Call.ARGUMENT);
        Check.dueText("setSpeed", Call.answer(house, "setSpeed", 0, 0), Call.ARGUMENT);
        Check.dueText("promise", Call.answer(house, "promise", 0, 0, 101), Call.ARGUMENT);
        Check.dueText("restore", Call.answer(house, "restore", 0, 2), Call.STATE);
        Check.dueText("all that is seen", Scene.seen(house).toString(),
                Scene.seen(Scene.BUSY.make()).toString());
    }

    /** A house that counts its calls. */
    private static final class Counted {
        private final DeltaNights house = new DeltaNights();
        private int calls = 0;

        String ask(String name, int... arguments) {
            calls++;
            return Call.answer(house, name, arguments);
        }

        void fill(int upTo) {
            while (calls < upTo) {
                ask("nights");
            }
        }
    }

    private static Counted houseOfTwoNights() {
        Counted counted = new Counted();
        for (int i = 0; i < 7; i++) {
            counted.ask("put", 0, i, i * 40);
        }
        counted.ask("bid", 0, 9);
        counted.ask("promise", 0, 1, 5);
        counted.ask("night");
        counted.ask("set", 0, 0, 99);
        counted.ask("night");
        counted.ask("copy", 0, 0, 3, 0);
        counted.ask("bid", 1, 2);
        return counted;
    }

    private static void lastCallOfEach() {
        Edge.ofTerms("An object is used for at most 512 calls after it has been made; what later calls answer"
                + " is free.");
        Object[][] rows = {{"put", 0, 10, 5}, {"put", 0, 11, 5}, {"set", 0, 9, 5}, {"cut", 0, 1, 9},
            {"copy", 0, 0, 10, 3}, {"copy", 0, 0, 11, 3}, {"length", 0}, {"at", 0, 9}, {"digest", 0},
            {"setMarks", 8, 16, 24}, {"setMarks", 9, 16, 24}, {"mark", 0, 9}, {"chunks", 0}, {"end", 0, 0},
            {"store"}, {"setNight", 500, 50}, {"bid", 0, 3}, {"setChain", 3, 30, 50}, {"forBase", 0},
            {"forDifference", 0}, {"forDifference", 1}, {"would", 0}, {"would", 1}, {"night"}, {"nights"},
            {"got", 0, 1}, {"got", 0, 2}, {"dayOf", 0, 1}, {"chain", 0}, {"bytes", 0, 1}, {"held", 0, 1},
            {"lengthOf", 0, 1}, {"digestOf", 0, 1}, {"digestByChunks", 0, 1}, {"restore", 0, 0},
            {"restore", 1, 0}, {"setSpeed", 30, 50}, {"mounts", 0, 1}, {"minutes", 0, 1},
            {"hourBits", 0, 1}, {"promise", 3, 600, 100}, {"drill", 0}, {"drill", 1}, {"paid", 0},
            {"owed", 0}, {"purse"}};
        for (Object[] row : rows) {
            String name = (String) row[0];
            int[] arguments = new int[row.length - 1];
            for (int i = 0; i < arguments.length; i++) {
                arguments[i] = (Integer) row[i + 1];
            }
            String early = houseOfTwoNights().ask(name, arguments);
            Counted counted = houseOfTwoNights();
            counted.fill(CALLS - 1);
            Check.dueText(Call.told(name, arguments), counted.ask(name, arguments), early);
            Check.due("calls", counted.calls, CALLS);
        }
    }

    /** Four full files, new in each of 60 nights, and all are served; then it is asked to the last. */
    private static void lastCallsOfADearRun() {
        Counted counted = new Counted();
        int[][] bytes = new int[4][48];
        counted.ask("setMarks", 0, 2, 2);
        counted.ask("setNight", 500, 1);
        for (int client = 0; client < 4; client++) {
            counted.ask("bid", client, 100);
            for (int i = 0; i < 48; i++) {
                bytes[client][i] = (client * 48 + i) % 256;
                counted.ask("put", client, i, bytes[client][i]);
            }
        }
        for (int night = 0; night < 60; night++) {
            for (int client = 0; client < 4; client++) {
                int place = (night * 7 + client) % 48;
                bytes[client][place] = (bytes[client][place] + 1 + night) % 256;
                counted.ask("set", client, place, bytes[client][place]);
            }
            Check.dueText("night " + night, counted.ask("night"), "4");
        }
        Check.dueText("nights()", counted.ask("nights"), "60");
        Check.dueText("one night more", counted.ask("night"), Call.STATE);
        for (int client = 0; client < 4; client++) {
            Check.dueText("chain(" + client + ")", counted.ask("chain", client), "59");
            Check.dueText("lengthOf", counted.ask("lengthOf", client, 59), "48");
        }
        Check.due("calls", counted.calls, CALLS - 4);
        for (int client = 0; client < 4; client++) {
            long digest = 0;
            for (int value : bytes[client]) {
                digest = Long.rotateLeft(digest, 5) ^ value;
            }
            Check.dueText("digestOf(" + client + ", 59)", counted.ask("digestOf", client, 59), "" + digest);
        }
        Check.due("calls", counted.calls, CALLS);
    }
}
