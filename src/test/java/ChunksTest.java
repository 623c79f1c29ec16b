/** Promises 9 to 13: marks, chunks, and how many unlike ones the house holds. */
public final class ChunksTest {

    public static void main(String[] args) {
        marksPlaces();
        refusesToMark();
        takesRangesOfMarks();
        cutsByTheSettingsAtFirst();
        cutsByLeastAndMost();
        cutsByBits();
        tellsEnds();
        settingsLeaveDaysAsTheyAre();
        countsUnlikeChunks();
        Check.close("ChunksTest");
    }

    private static void marksPlaces() {
        DeltaNights house = new DeltaNights();
        Check.write(house, 0, 0, 1, 255, 128, 0, 7);
        int[] marks = {0, 40503, 26997, 20523, 33114, 8374};
        for (int place = 0; place < marks.length; place++) {
            Check.due("mark(0, " + place + ")", house.mark(0, place), marks[place]);
        }
        house.set(0, 0, 200);
        Check.due("a byte four places ahead", house.mark(0, 4), 33114);
        Check.dueTrue("a byte three places ahead", house.mark(0, 3) != 20523);
        house.set(0, 5, 9);
        Check.due("a byte behind", house.mark(0, 4), 33114);

        DeltaNights turned = new DeltaNights();
        Check.write(turned, 1, 1, 0, 0, 0);
        Check.due("turned by 3", turned.mark(1, 1), (40503 << 3 | 40503 >> 13) & 65535);
        Check.due("turned by 6", turned.mark(1, 2), (40503 << 6 | 40503 >> 10) & 65535);
        Check.due("turned by 9", turned.mark(1, 3), (40503 << 9 | 40503 >> 7) & 65535);
    }

    private static void refusesToMark() {
        DeltaNights house = new DeltaNights();
        Check.dueNoPlace("mark in an empty file", () -> house.mark(0, 0));
        Check.write(house, 0, 5);
        Check.dueNoPlace("mark(0, 1)", () -> house.mark(0, 1));
        Check.dueNoPlace("mark(0, -1)", () -> house.mark(0, -1));
        Check.dueNoPlace("mark at the greatest place", () -> house.mark(0, Integer.MAX_VALUE));
        Check.dueNoClient("mark(4, 9)", () -> house.mark(4, 9));
        Check.dueNoClient("mark(-1, 0)", () -> house.mark(-1, 0));
        Check.dueNoClient("chunks(4)", () -> house.chunks(4));
        Check.dueNoClient("chunks(-1)", () -> house.chunks(-1));
    }

    private static void takesRangesOfMarks() {
        DeltaNights house = new DeltaNights();
        int[][] good = {{0, 1, 1}, {8, 16, 24}, {8, 16, 16}, {0, 1, 24}};
        for (int[] marks : good) {
            house.setMarks(marks[0], marks[1], marks[2]);
        }
        house.setMarks(0, 2, 5);
        Check.write(house, 0, 1, 2, 3, 4, 5, 6);
        int[][] bad = {{-1, 1, 1}, {9, 1, 1}, {0, 0, 1}, {0, 17, 20}, {0, 5, 4}, {0, 1, 25},
            {0, 16, 15}, {0, -1, 4}, {0, 3, 0}, {Integer.MIN_VALUE, 1, 1}, {0, 1, Integer.MAX_VALUE}};
        for (int[] marks : bad) {
            Check.dueNoClient("setMarks(" + marks[0] + ", " + marks[1] + ", " + marks[2] + ")",
                    () -> house.setMarks(marks[0], marks[1], marks[2]));
            Check.due("chunks after a refused setMarks", house.chunks(0), 3);
        }
    }

    /** With bytes of 0 all marks are 0; with 25, 50, 100, 200 again and again none ends in two 0s. */
    private static void cutsByTheSettingsAtFirst() {
        DeltaNights house = new DeltaNights();
        Check.due("no chunk of an empty file", house.chunks(0), 0);
        for (int i = 0; i < 7; i++) {
            house.put(0, i, 0);
        }
        Check.due("chunks of 0s", house.chunks(0), 3);
        Check.due("the least is 3 at first", house.end(0, 0), 3);
        Check.due("the end of the file", house.end(0, 2), 7);

        Check.write(house, 1, 25, 50, 100, 200);
        house.copy(1, 0, 4, 1);
        house.copy(1, 0, 8, 1);
        house.copy(1, 0, 16, 1);
        Check.due("chunks without marks", house.chunks(1), 3);
        Check.due("the most is 12 at first", house.end(1, 0), 12);

        for (int value = 0; value < 256; value++) {
            DeltaNights single = new DeltaNights();
            Check.write(single, 0, 0, 0, 0, value, 1);
            single.setMarks(2, 4, 12);
            boolean marked = single.mark(0, 3) % 4 == 0;
            Check.due("end(0, 0) with " + value, single.end(0, 0), marked ? 4 : 5);
        }
        DeltaNights first = new DeltaNights();
        DeltaNights told = new DeltaNights();
        told.setMarks(2, 3, 12);
        for (int i = 0; i < 48; i++) {
            first.put(0, i, i * i % 251);
            told.put(0, i, i * i % 251);
        }
        Check.due("chunks by the marks at first", first.chunks(0), told.chunks(0));
        for (int i = 0; i < first.chunks(0); i++) {
            Check.due("ends by the marks at first", first.end(0, i), told.end(0, i));
        }
    }

    private static void cutsByLeastAndMost() {
        DeltaNights house = new DeltaNights();
        for (int i = 0; i < 48; i++) {
            house.put(0, i, i);
        }
        for (int least = 1; least <= 16; least++) {
            house.setMarks(0, least, 24);
            Check.due("no bits, least " + least, house.chunks(0), (47 + least) / least);
        }
        house.setMarks(8, 16, 24);
        Check.dueTrue("no mark", house.mark(0, 15) % 256 != 0);
        for (int i = 0; i < 48; i++) {
            house.set(0, i, i % 4 == 0 ? 1 : 0);
        }
        house.setMarks(8, 1, 24);
        Check.due("most 24", house.chunks(0), 2);
        house.setMarks(8, 1, 1);
        Check.due("most 1", house.chunks(0), 48);
        house.setMarks(8, 5, 5);
        Check.due("most 5", house.chunks(0), 10);
        Check.due("the last chunk ends with the file", house.end(0, 9), 48);
    }

    /** Each chunk of each cut is looked at by the words of the document. */
    private static void cutsByBits() {
        for (int bits = 0; bits <= 8; bits++) {
            DeltaNights house = new DeltaNights();
            for (int i = 0; i < 48; i++) {
                house.put(0, i, (i * 37 + i * i * 11) % 256);
            }
            house.setMarks(bits, 2, 9);
            int start = 0;
            for (int chunk = 0; chunk < house.chunks(0); chunk++) {
                int end = house.end(0, chunk);
                for (int place = start; place < end; place++) {
                    int many = place + 1 - start;
                    boolean marked = house.mark(0, place) % (1 << bits) == 0;
                    boolean ends = place == 47 || many == 9 || (many >= 2 && marked);
                    Check.due("chunk ends behind " + place, ends ? 1 : 0, place == end - 1 ? 1 : 0);
                }
                start = end;
            }
            Check.due("all is cut", start, 48);
        }
    }

    private static void tellsEnds() {
        DeltaNights house = new DeltaNights();
        Check.dueNoPlace("end(0, 0) of an empty file", () -> house.end(0, 0));
        house.setMarks(0, 2, 2);
        Check.write(house, 0, 9, 9, 9, 9, 9);
        Check.due("end(0, 0)", house.end(0, 0), 2);
        Check.due("end(0, 1)", house.end(0, 1), 4);
        Check.due("end(0, 2)", house.end(0, 2), 5);
        Check.dueNoPlace("end(0, 3)", () -> house.end(0, 3));
        Check.dueNoPlace("end(0, -1)", () -> house.end(0, -1));
        Check.dueNoPlace("end at the greatest chunk", () -> house.end(0, Integer.MAX_VALUE));
        Check.dueNoClient("end(4, -1)", () -> house.end(4, -1));
        Check.dueNoClient("end(-1, 0)", () -> house.end(-1, 0));
        house.cut(0, 1, 4);
        Check.due("chunks behind a cut", house.chunks(0), 1);
        Check.dueNoPlace("end(0, 1) behind a cut", () -> house.end(0, 1));
    }

    private static void settingsLeaveDaysAsTheyAre() {
        DeltaNights house = new DeltaNights();
        house.setMarks(0, 2, 2);
        Check.write(house, 0, 1, 2, 3, 4, 5, 6);
        house.bid(0, 1);
        house.night();
        house.setMarks(0, 3, 3);
        Check.due("bytes(0, 0)", house.bytes(0, 0), 9);
        Check.due("held(0, 0)", house.held(0, 0), 3);
        Check.due("lengthOf(0, 0)", house.lengthOf(0, 0), 6);
        Check.due("digestOf(0, 0)", house.digestOf(0, 0), house.digest(0));
        Check.due("store()", house.store(), 3);
        Check.due("the same bytes in another row", house.would(0), 2);
        Check.due("forDifference(0)", house.forDifference(0), 8);
    }

    private static void countsUnlikeChunks() {
        DeltaNights house = new DeltaNights();
        house.setMarks(0, 2, 2);
        Check.write(house, 0, 1, 2, 1, 2, 3, 4);
        Check.write(house, 1, 3, 4, 5, 6);
        Check.due("store() ahead of all nights", house.store(), 0);
        house.bid(0, 1);
        house.night();
        Check.due("store() of one client", house.store(), 2);
        house.bid(1, 1);
        house.would(1);
        house.forBase(1);
        Check.due("store() holds nothing that is just asked for", house.store(), 2);
        house.night();
        Check.due("store() of two clients", house.store(), 3);
        house.setChain(0, 0, 50);
        house.night();
        Check.due("store() with a base anew", house.store(), 3);
        house.cut(0, 0, 6);
        house.night();
        Check.due("store() keeps the chunks of old days", house.store(), 3);
        Check.write(house, 0, 2, 1);
        house.night();
        Check.due("another order is another chunk", house.store(), 4);
    }
}
