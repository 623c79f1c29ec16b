/** A file, two nights, a drill, and the way back to the first day. */
public final class FirstNights {

    public static void main(String[] args) {
        DeltaNights house = new DeltaNights();
        for (int place = 0; place < 12; place++) {
            house.put(0, place, place * 21);
        }
        house.bid(0, 5);
        System.out.println("a base would have " + house.forBase(0) + " bytes");
        System.out.println("clients served in night 0: " + house.night());

        house.set(0, 10, 7);
        house.night();
        System.out.println("night 1 gave " + (house.got(0, 1) == 2 ? "a difference" : "something else")
                + " of " + house.bytes(0, 1) + " bytes");
        System.out.println("day 1 is brought back from " + house.mounts(0, 1) + " links in "
                + house.minutes(0, 1) + " minutes");

        house.promise(0, 10, 3);
        System.out.println("the drill pays " + house.drill(0));
        System.out.println("paid for links " + house.paid(0) + ", left in the purse " + house.purse());

        System.out.println("places that change on the way back to day 0: " + house.restore(0, 0));
        System.out.println("the byte at place 10 is " + house.at(0, 10) + " again");
        try {
            house.bid(0, 101);
        } catch (IllegalArgumentException e) {
            System.out.println("a bid of 101 is refused; the bid is still " + house.bid(0, 5));
        }
    }
}
