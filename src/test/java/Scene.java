import java.util.ArrayList;
import java.util.EnumMap;
import java.util.List;
import java.util.Map;

/**
 * Houses in which calls are refused. Each is made anew as often as it is needed, so that a house
 * with a refused call can be asked beside one without it, in all that can be seen from outside.
 */
enum Scene {

    /** Empty files, no night, no chain. */
    FRESH {
        @Override
        DeltaNights make() {
            return new DeltaNights();
        }
    },

    /**
     * No setting is as at first, five nights have gone by, and nobody got a link in the last one. In
     * the next night each setting tells: client 0 bids 9 and gets a difference, client 1 bids 7 and
     * does not find room, client 2 bids 6 and gets a difference as its cheap price is too low for a
     * base, client 3 bids 5 and gets a base.
     */
    BUSY {
        @Override
        DeltaNights make() {
            DeltaNights house = new DeltaNights();
            house.setMarks(1, 2, 5);
            house.setNight(400, 2);
            house.setSpeed(7, 3);
            for (int client = 0; client < 4; client++) {
                for (int i = 0; i < BUSY_BYTES[client]; i++) {
                    house.put(client, i, (client * 60 + i * i * 7) % 256);
                }
                house.bid(client, new int[] {9, 7, 6, 5}[client]);
                house.promise(client, 4 + client, 6 - client);
            }
            house.setChain(0, 2, 10);
            house.setChain(1, 4, 4);
            house.setChain(2, 1, 1);
            house.setChain(3, 1, 10);
            house.bid(3, 0);
            house.night();
            house.bid(3, 5);
            for (int client = 0; client < 3; client++) {
                house.set(client, 1, 99);
            }
            house.night();
            house.setNight(400, 11);
            house.set(3, 1, 99);
            house.night();
            house.setNight(400, 2);
            house.setChain(3, 9, 10);
            house.set(3, 0, 98);
            house.night();
            house.setNight(400, 50);
            house.night();
            house.setNight(60, 3);
            house.setChain(3, 1, 10);
            for (int client = 0; client < 4; client++) {
                house.set(client, 3, 77);
            }
            for (int i = 0; i < 44; i += 3) {
                house.set(1, i, 255 - i);
            }
            return house;
        }
    },

    /** All files are full, and all nights have gone by; client 2 has no chain. */
    FULL {
        @Override
        DeltaNights make() {
            DeltaNights house = new DeltaNights();
            house.setNight(500, 1);
            for (int client = 0; client < 4; client++) {
                Check.write(house, client, client, 200 - client, 40 + client);
                for (int i = 0; i < 4; i++) {
                    house.copy(client, 0, house.length(client), client);
                }
            }
            house.bid(0, 5);
            house.bid(1, 4);
            house.bid(3, 3);
            house.setChain(0, 3, 5);
            for (int night = 0; night < 60; night++) {
                house.set(0, night * 7 % 48, night + 100);
                if (night % 10 == 9) {
                    house.set(1, 5, night);
                }
                house.night();
            }
            house.bid(2, 1);
            house.promise(0, 1, 2);
            house.promise(3, 1, 3);
            return house;
        }
    };

    static final int[] BUSY_BYTES = {20, 45, 9, 11};

    private static final Map<Scene, List<String>> UNTOUCHED = new EnumMap<>(Scene.class);

    abstract DeltaNights make();

    /** The call throws what is due, and all that the house answers from then on is as without it. */
    void refuses(String want, String name, int... arguments) {
        DeltaNights house = make();
        String call = this + ": " + Call.told(name, arguments);
        Check.dueText(call, Call.answer(house, name, arguments), want);
        List<String> untouched = UNTOUCHED.computeIfAbsent(this, scene -> seen(scene.make()));
        List<String> touched = seen(house);
        for (int i = 0; i < untouched.size(); i++) {
            if (i >= touched.size() || !touched.get(i).equals(untouched.get(i))) {
                Check.dueText(call + " has changed", i < touched.size() ? touched.get(i) : "nothing",
                        untouched.get(i));
                return;
            }
        }
        Check.due(call + " has changed how many answers", touched.size(), untouched.size());
    }

    static void allRefuse(String want, String name, int... arguments) {
        for (Scene scene : values()) {
            scene.refuses(want, name, arguments);
        }
    }

    /** A house whose chunks have this many bytes each, but for the last ones of files. */
    static DeltaNights ofChunks(int bytes) {
        DeltaNights house = new DeltaNights();
        house.setMarks(0, bytes, bytes);
        return house;
    }

    /** Some 300 answers: first those that change nothing, then those of one night and drill more. */
    static List<String> seen(DeltaNights house) {
        List<String> seen = new ArrayList<>();
        for (String name : new String[] {"nights", "store", "purse"}) {
            tell(seen, house, name);
        }
        for (int client = 0; client < 4; client++) {
            lookAtFile(seen, house, client);
            for (int night : sample(house.nights())) {
                lookAtDay(seen, house, client, night);
            }
        }
        for (int client = 0; client < 4; client++) {
            tell(seen, house, "drill", client);
            tell(seen, house, "owed", client);
        }
        tell(seen, house, "night");
        for (int client = 0; client < 4; client++) {
            tell(seen, house, "got", client, house.nights() - 1);
            tell(seen, house, "paid", client);
            tell(seen, house, "bid", client, 0);
            tell(seen, house, "restore", client, 0);
        }
        return seen;
    }

    private static void lookAtFile(List<String> seen, DeltaNights house, int client) {
        String[] names = {"length", "digest", "forBase", "forDifference", "would", "chain", "paid",
            "owed"};
        for (String name : names) {
            tell(seen, house, name, client);
        }
        int chunks = house.chunks(client);
        for (int chunk = 0; chunk <= chunks; chunk++) {
            tell(seen, house, "end", client, chunk);
        }
    }

    private static void lookAtDay(List<String> seen, DeltaNights house, int client, int night) {
        String[] names = {"got", "dayOf", "bytes", "held", "lengthOf", "digestOf", "digestByChunks",
            "mounts", "hourBits"};
        for (String name : names) {
            tell(seen, house, name, client, night);
        }
    }

    private static int[] sample(int nights) {
        return nights < 5 ? java.util.stream.IntStream.range(0, nights).toArray()
                : new int[] {0, 1, nights - 2, nights - 1};
    }

    private static void tell(List<String> seen, DeltaNights house, String name, int... arguments) {
        seen.add(Call.told(name, arguments) + " = " + Call.answer(house, name, arguments));
    }
}
