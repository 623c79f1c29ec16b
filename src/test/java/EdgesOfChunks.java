/** The edges that promises 9 to 13 name, and 'Files' and 'Marks and chunks' in the terms. */
final class EdgesOfChunks {

    private static final int[] BAD_CLIENTS = EdgesOfFiles.BAD_CLIENTS;

    private EdgesOfChunks() {
    }

    static void check() {
        termsOfFiles();
        termsOfMarks();
        termsOfChunks();
        chunksEndByMarks();
        setMarks();
        refusedSetMarks();
        mark();
        chunks();
        end();
        store();
    }

    private static void termsOfFiles() {
        Edge.ofTerms("Clients are 0 to 3.");
        DeltaNights house = new DeltaNights();
        for (int client = 0; client < 4; client++) {
            house.put(client, 0, client);
            Check.due("length(" + client + ")", house.length(client), 1);
        }
        Scene.allRefuse(Call.ARGUMENT, "length", 4);
        Scene.allRefuse(Call.ARGUMENT, "length", -1);

        Edge.ofTerms("Each has a file, a row of at most 48 bytes, 0 to 255 each, empty at first; places"
                + " are numbered from 0.");
        DeltaNights files = new DeltaNights();
        for (int client = 0; client < 4; client++) {
            Check.due("empty at first", files.length(client), 0);
            for (int i = 0; i < 48; i++) {
                files.put(client, i, i % 2 * 255);
            }
            Check.due("the first place", files.at(client, 0), 0);
            Check.due("the last place", files.at(client, 47), 255);
            Check.dueText("put a byte more", Call.answer(files, "put", client, 48, 7), Call.STATE);
        }
    }

    private static void termsOfMarks() {
        Edge.ofTerms("The scramble of a byte is the remainder of 40503 times it by 65536.");
        for (int value = 0; value < 256; value++) {
            DeltaNights house = new DeltaNights();
            house.put(0, 0, value);
            Check.due("the scramble of " + value, house.mark(0, 0), 40503L * value % 65536);
        }

        Edge.ofTerms("Turning a number below 65536 by 3 takes its 16 bits three places up, and those that"
                + " fall out above come in below.");
        for (int value = 0; value < 256; value++) {
            DeltaNights house = new DeltaNights();
            Check.write(house, 0, value, 0);
            long scramble = 40503L * value % 65536;
            Check.due("turned, with " + value, house.mark(0, 1), scramble * 8 % 65536 + scramble / 8192);
        }

        Edge.ofTerms("The mark at a place of a file is found over the bytes at it and at the up to three"
                + " places just ahead of it, from the first of these on: it begins as 0; for each byte it"
                + " is turned by 3, and then each bit of it changes that is 1 in the scramble of the byte.");
        int[] ofOnes = {40503, 28555, 57964, 36176, 36176, 36176};
        DeltaNights ones = new DeltaNights();
        for (int place = 0; place < ofOnes.length; place++) {
            ones.put(0, place, 1);
        }
        for (int place = 0; place < ofOnes.length; place++) {
            Check.due("the mark at " + place, ones.mark(0, place), ofOnes[place]);
        }
        for (int changed = 0; changed < 6; changed++) {
            DeltaNights house = new DeltaNights();
            Check.write(house, 0, 1, 1, 1, 1, 1, 1);
            house.set(0, changed, 2);
            for (int place = 0; place < 6; place++) {
                boolean near = changed <= place && changed >= place - 3;
                Check.dueTrue("the byte at " + changed + " tells in the mark at " + place + " or not",
                        near == (house.mark(0, place) != ofOnes[place]));
            }
        }
        marksAtTheEndOfAFullFile();
    }

    private static void marksAtTheEndOfAFullFile() {
        DeltaNights full = new DeltaNights();
        for (int place = 0; place < 48; place++) {
            full.put(0, place, 0);
        }
        full.set(0, 44, 1);
        Check.due("the last place, three behind", full.mark(0, 47), (40503 << 9 | 40503 >> 7) & 65535);
        full.set(0, 44, 0);
        full.set(0, 43, 1);
        Check.due("the last place, four behind", full.mark(0, 47), 0);
    }

    private static void termsOfChunks() {
        Edge.ofTerms("A file is cut into chunks, one behind the other.");
        for (int bytes = 0; bytes <= 48; bytes++) {
            DeltaNights house = new DeltaNights();
            for (int i = 0; i < bytes; i++) {
                house.put(0, i, i * i % 256);
            }
            int behind = 0;
            for (int chunk = 0; chunk < house.chunks(0); chunk++) {
                Check.dueTrue("a chunk has a byte", house.end(0, chunk) > behind);
                behind = house.end(0, chunk);
            }
            Check.due("all bytes are in chunks", behind, bytes);
        }

        Edge.ofTerms("Two chunks are the same, if they have the same bytes.");
        DeltaNights house = Scene.ofChunks(2);
        Check.write(house, 0, 0, 0, 0, 0, 0, 1, 1, 0, 0);
        Check.due("0 0 twice; 0 1; 1 0; 0", house.forBase(0), 5 + 7);
        house.setNight(500, 0);
        house.bid(0, 1);
        house.bid(1, 1);
        Check.write(house, 1, 1, 0, 0, 0);
        house.night();
        Check.due("the same in two files are one", house.store(), 4);
        for (int one = 0; one < 24; one++) {
            for (int other = one + 1; other < 24; other += 5) {
                dueSameChunks(one, other);
            }
        }
    }

    /** 24 chunks of two bytes, of which two are the same, in whatever places of the row. */
    private static void dueSameChunks(int one, int other) {
        DeltaNights house = Scene.ofChunks(2);
        for (int i = 0; i < 48; i++) {
            int chunk = i / 2 == other ? one : i / 2;
            house.put(0, i, 2 * chunk + i % 2);
        }
        String when = "the chunks " + one + " and " + other;
        Check.due(when + ": forBase(0)", house.forBase(0), 24 + 46);
        house.bid(0, 1);
        house.night();
        Check.due(when + ": held(0, 0)", house.held(0, 0), 23);
        Check.due(when + ": store()", house.store(), 23);
        Check.due(when + ": bytes(0, 0)", house.bytes(0, 0), 24 + 46);
        house.set(0, 2 * one, 200);
        house.set(0, 2 * other, 200);
        Check.due(when + ", changed: forDifference(0)", house.forDifference(0), 24 + 2);
        house.set(0, 2 * other + 1, 201);
        Check.due(when + ", unlike: forDifference(0)", house.forDifference(0), 24 + 4);
    }

    /** A file of one byte again and again. */
    private static DeltaNights houseOfOne(int value, int bytes) {
        DeltaNights house = new DeltaNights();
        for (int i = 0; i < bytes; i++) {
            house.put(0, i, value);
        }
        return house;
    }

    /** Their marks are 0, so that all bits of them are 0 everywhere. */
    private static DeltaNights houseOfZeros(int bytes) {
        return houseOfOne(0, bytes);
    }

    private static void chunksEndByMarks() {
        Edge.ofTerms("A chunk ends behind a place, if the file ends there; if the chunk has as many bytes"
                + " as the most tells, 12 at first; or if it has as many as the least tells or more, 3 at"
                + " first, and the lowest bits of the mark at this place, as many as the bits tell, 2 at"
                + " first, are all 0.");
        for (int bytes = 1; bytes <= 13; bytes++) {
            Check.due("least 3 at first, " + bytes, houseOfZeros(bytes).chunks(0), (bytes + 2) / 3);
            // 18 again and again: no mark has two 0s below.
            Check.due("most 12 at first, " + bytes, houseOfOne(18, bytes).end(0, 0), Math.min(bytes, 12));
        }
        // 1 again and again: of the mark at 2 the lowest two bits are 0, of those behind four are.
        int[] ends = {3, 3, 3, 4, 4, 12, 12, 12, 12};
        Check.due("2 bits at first", houseOfOne(1, 48).end(0, 0), 3);
        Check.due("and not 1", houseOfOne(18, 48).end(0, 0), 12);
        for (int bits = 0; bits <= 8; bits++) {
            DeltaNights ones = houseOfOne(1, 48);
            ones.setMarks(bits, 3, 12);
            Check.due(bits + " bits", ones.end(0, 0), ends[bits]);
            DeltaNights zeros = houseOfZeros(48);
            zeros.setMarks(bits, 2, 24);
            Check.due("all of " + bits + " bits are 0", zeros.end(0, 0), 2);
        }
        for (int value = 0; value < 256; value++) {
            for (int bits = 0; bits <= 8; bits++) {
                DeltaNights house = new DeltaNights();
                Check.write(house, 0, value, 0);
                house.setMarks(bits, 1, 24);
                boolean marked = 40503L * value % 65536 % (1 << bits) == 0;
                Check.due(bits + " bits, a byte " + value, house.end(0, 0), marked ? 1 : 2);
            }
        }
        for (int least = 1; least <= 16; least++) {
            DeltaNights zeros = houseOfZeros(48);
            zeros.setMarks(2, least, 24);
            Check.due("as many as the least tells, " + least, zeros.end(0, 0), least);
        }
        for (int most = 3; most <= 24; most++) {
            DeltaNights unmarked = houseOfOne(18, 48);
            unmarked.setMarks(2, 3, most);
            Check.due("as many as the most tells, " + most, unmarked.end(0, 0), most);
            Check.due("and anew behind it", unmarked.end(0, 1), 2 * most);
        }
        Check.due("a byte alone, as the file ends there", houseOfOne(18, 1).end(0, 0), 1);
    }

    private static void setMarks() {
        Edge.of(9, "Sets how chunks are cut from now on; rows of chunks of days stay as they are.");
        DeltaNights house = Scene.ofChunks(2);
        Check.write(house, 0, 1, 2, 3, 4, 5, 6);
        house.bid(0, 1);
        house.night();
        house.setMarks(0, 6, 6);
        Check.due("from now on", house.chunks(0), 1);
        Check.due("the row of the day", house.bytes(0, 0), 3 + 6);
        Check.due("held(0, 0)", house.held(0, 0), 3);
        Check.due("store()", house.store(), 3);
        Check.due("the row is another one now", house.would(0), 2);
        house.night();
        Check.due("the row of the day behind it", house.bytes(0, 1), 1 + 6);
        Check.due("the row of the day", house.bytes(0, 0), 3 + 6);

        Edge.of(9, "- `bits`: 0 to 8");
        // Of the mark of a byte of 128 the lowest seven bits are 0, and the eighth is 1.
        DeltaNights marked = new DeltaNights();
        Check.write(marked, 0, 128, 0);
        for (int bits = 0; bits <= 8; bits++) {
            marked.setMarks(bits, 1, 24);
            Check.due(bits + " bits", marked.end(0, 0), bits <= 7 ? 1 : 2);
        }
        for (int bits : new int[] {-1, 9, Integer.MIN_VALUE, Integer.MAX_VALUE}) {
            Scene.allRefuse(Call.ARGUMENT, "setMarks", bits, 3, 12);
        }

        Edge.of(9, "- `least`: 1 to 16");
        DeltaNights zeros = houseOfZeros(48);
        zeros.setMarks(2, 1, 24);
        Check.due("least 1", zeros.chunks(0), 48);
        zeros.setMarks(2, 16, 24);
        Check.due("least 16", zeros.chunks(0), 3);
        for (int least : new int[] {0, 17, -1, Integer.MIN_VALUE, Integer.MAX_VALUE}) {
            Scene.allRefuse(Call.ARGUMENT, "setMarks", 2, least, 24);
        }

        Edge.of(9, "- `most`: least to 24");
        for (int least = 1; least <= 16; least++) {
            zeros.setMarks(2, least, least);
            Check.due("most as least", zeros.end(0, 0), least);
            Scene.BUSY.refuses(Call.ARGUMENT, "setMarks", 2, least, least - 1);
        }
        DeltaNights most = houseOfOne(18, 48);
        most.setMarks(2, 3, 24);
        Check.due("most 24", most.end(0, 0), 24);
        most.setMarks(2, 1, 1);
        Check.due("most 1", most.chunks(0), 48);
        Scene.allRefuse(Call.ARGUMENT, "setMarks", 2, 3, 25);
        Scene.allRefuse(Call.ARGUMENT, "setMarks", 2, 16, 25);
    }

    private static void refusedSetMarks() {
        Edge.of(9, "Throws `IllegalArgumentException` if bits, least or most is out of range");
        int[][] bad = {{-1, 1, 1}, {9, 1, 1}, {0, 0, 1}, {0, 0, 0}, {0, 17, 20}, {0, 17, 17}, {0, 2, 1},
            {8, 16, 15}, {0, 1, 25}, {0, 1, 0}, {0, 1, -1}, {0, 1, Integer.MIN_VALUE},
            {0, 1, Integer.MAX_VALUE}, {0, Integer.MIN_VALUE, 1}, {0, Integer.MAX_VALUE, 24},
            {0, -1, -1}, {Integer.MIN_VALUE, 0, 0}, {9, 17, 25}};
        for (int[] marks : bad) {
            Scene.allRefuse(Call.ARGUMENT, "setMarks", marks);
        }
    }

    private static void mark() {
        Edge.of(10, "Returns the mark at a place of a file.");
        DeltaNights house = new DeltaNights();
        Check.write(house, 0, 255, 255, 255, 255, 255);
        long mark = 0;
        for (int place = 0; place < 4; place++) {
            mark = (mark * 8 % 65536 + mark / 8192) ^ (40503L * 255 % 65536);
            Check.due("mark(0, " + place + ")", house.mark(0, place), mark);
        }
        Check.due("mark(0, 4)", house.mark(0, 4), mark);

        Edge.of(10, "- `client`: 0 to 3");
        for (int client = 0; client < 4; client++) {
            DeltaNights each = new DeltaNights();
            each.put(client, 0, 2);
            Check.due("mark(" + client + ", 0)", each.mark(client, 0), 15470);
        }

        Edge.of(10, "Throws `IllegalArgumentException` if client is out of range");
        for (int client : BAD_CLIENTS) {
            Scene.allRefuse(Call.ARGUMENT, "mark", client, 0);
            Scene.allRefuse(Call.ARGUMENT, "mark", client, -1);
            Scene.allRefuse(Call.ARGUMENT, "mark", client, 48);
        }

        Edge.of(10, "Throws `IndexOutOfBoundsException` if the file has no byte at place");
        Scene.FRESH.refuses(Call.INDEX, "mark", 0, 0);
        for (int client = 0; client < 4; client++) {
            Scene.BUSY.refuses(Call.INDEX, "mark", client, Scene.BUSY_BYTES[client]);
            for (int place : new int[] {-1, 48, Integer.MIN_VALUE, Integer.MAX_VALUE}) {
                Scene.allRefuse(Call.INDEX, "mark", client, place);
            }
        }
        DeltaNights shorter = new DeltaNights();
        Check.write(shorter, 0, 1, 2);
        shorter.cut(0, 0, 1);
        Check.dueText("mark at a byte that was", Call.answer(shorter, "mark", 0, 1), Call.INDEX);
    }

    private static void chunks() {
        Edge.of(11, "Returns into how many chunks a file is cut now.");
        Check.due("no byte", new DeltaNights().chunks(0), 0);
        Check.due("one byte", houseOfZeros(1).chunks(0), 1);
        DeltaNights house = houseOfZeros(48);
        house.setMarks(8, 1, 1);
        Check.due("48 chunks", house.chunks(0), 48);
        house.cut(0, 1, 47);
        Check.due("behind a cut", house.chunks(0), 1);
        house.cut(0, 0, 1);
        Check.due("behind a cut of all", house.chunks(0), 0);

        Edge.of(11, "- `client`: 0 to 3");
        for (int client = 0; client < 4; client++) {
            DeltaNights each = new DeltaNights();
            Check.write(each, client, 0, 0, 0, 0);
            for (int other = 0; other < 4; other++) {
                Check.due("chunks(" + other + ")", each.chunks(other), other == client ? 2 : 0);
            }
        }

        Edge.of(11, "Throws `IllegalArgumentException` if client is out of range");
        for (int client : BAD_CLIENTS) {
            Scene.allRefuse(Call.ARGUMENT, "chunks", client);
        }
    }

    private static void end() {
        Edge.of(12, "Returns the place of the first byte behind a chunk of a file, as it is cut now.");
        DeltaNights house = houseOfZeros(48);
        house.setMarks(0, 1, 1);
        for (int chunk = 0; chunk < 48; chunk++) {
            Check.due("end(0, " + chunk + ")", house.end(0, chunk), chunk + 1);
        }
        house.setMarks(0, 16, 24);
        Check.due("as it is cut now", house.end(0, 0), 16);
        Check.due("the end of a full file", house.end(0, 2), 48);
        house.cut(0, 20, 28);
        Check.due("the end of the file now", house.end(0, 1), 20);

        Edge.of(12, "- `client`: 0 to 3");
        for (int client = 0; client < 4; client++) {
            DeltaNights each = new DeltaNights();
            Check.write(each, client, 0, 0);
            Check.due("end(" + client + ", 0)", each.end(client, 0), 2);
        }

        Edge.of(12, "- `chunk`: 0 for the first one");
        Check.due("end(0, 0)", houseOfZeros(4).end(0, 0), 3);
        Check.due("end(0, 1)", houseOfZeros(4).end(0, 1), 4);

        Edge.of(12, "Throws `IllegalArgumentException` if client is out of range");
        for (int client : BAD_CLIENTS) {
            Scene.allRefuse(Call.ARGUMENT, "end", client, 0);
            Scene.allRefuse(Call.ARGUMENT, "end", client, -1);
            Scene.allRefuse(Call.ARGUMENT, "end", client, 48);
        }

        Edge.of(12, "Throws `IndexOutOfBoundsException` if there are not so many chunks, or chunk is below 0");
        Scene.FRESH.refuses(Call.INDEX, "end", 0, 0);
        for (int client = 0; client < 4; client++) {
            Scene.BUSY.refuses(Call.INDEX, "end", client, Scene.BUSY.make().chunks(client));
            Scene.FULL.refuses(Call.INDEX, "end", client, Scene.FULL.make().chunks(client));
            for (int chunk : new int[] {-1, 48, Integer.MIN_VALUE, Integer.MAX_VALUE}) {
                Scene.allRefuse(Call.INDEX, "end", client, chunk);
            }
        }
        DeltaNights finest = houseOfZeros(48);
        finest.setMarks(0, 1, 1);
        Check.dueText("48 chunks", Call.answer(finest, "end", 0, 48), Call.INDEX);
        finest.setMarks(0, 16, 16);
        Check.dueText("not so many now", Call.answer(finest, "end", 0, 3), Call.INDEX);
    }

    private static void store() {
        Edge.of(13, "Returns how many unlike chunks all links of all clients hold.");
        DeltaNights house = Scene.ofChunks(1);
        Check.due("no link", house.store(), 0);
        house.bid(0, 1);
        house.night();
        Check.due("a link that holds nothing", house.store(), 0);
        Check.write(house, 0, 0, 0, 255, 0);
        house.night();
        Check.due("each once", house.store(), 2);
        house.copy(0, 0, 4, 3);
        house.bid(3, 1);
        house.night();
        Check.due("of all clients, each once", house.store(), 2);
        house.put(3, 0, 7);
        house.night();
        Check.due("of the last client", house.store(), 3);
        house.setMarks(0, 2, 2);
        house.night();
        Check.due("another size is another chunk: 0 0, 255 0, 7 0, 0 255, 0", house.store(), 3 + 4);
        house.setChain(0, 0, 50);
        house.night();
        Check.due("held by a base anew too", house.store(), 3 + 4);

        DeltaNights most = Scene.ofChunks(1);
        most.setNight(500, 0);
        for (int client = 0; client < 4; client++) {
            most.bid(client, 1);
            for (int i = 0; i < 48; i++) {
                most.put(client, i, client * 48 + i);
            }
        }
        Check.due("night()", most.night(), 4);
        Check.due("four full files of unlike chunks", most.store(), 192);
    }
}
