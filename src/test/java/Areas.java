/** Areas for tests that need one in which all has happened. */
final class Areas {
    private Areas() {
    }

    /** 3 lifts, 4 pistes and 8 guests in all states, with something saved, kept, remembered and in the input. */
    static SlopeOperator busy() {
        SlopeOperator x = new SlopeOperator();
        x.addLift(0, 1, 0, 3, 2, 52);
        x.addLift(1, 2, 1, 2, 1, 40);
        x.addLift(0, 2, 2, 6, 8, 93);
        x.addPiste(2, 0, 1, 9);
        x.addPiste(1, 0, 2, 4);
        x.addPiste(2, 1, 3, 3);
        x.addPiste(0, 3, 3, 1);
        Bounds.addGuests(x, 5, 0, 2);
        x.addGuest(2, 3, 3, 0, 5);
        x.addGuest(2, 1, 15, 1, 9);
        x.addGuest(7, 1, 0, 3, 2);
        x.save();
        for (int guest = 0; guest < 4; guest++) {
            x.queue(guest, 0);
        }
        x.leave(7);
        x.ski(5, 0);
        x.open(1, false);
        x.open(2, false);
        x.setWind(3);
        x.advance(2);
        Told.answer(() -> x.ski(4, 0));
        Bounds.put(x, "g09;");
        Told.answer(x::read);
        x.groom(2);
        x.setWind(0);
        x.advance(3);
        x.open(1, false);
        x.groom(1);
        x.queue(4, 2);
        Told.answer(() -> x.queue(6, 0));
        Bounds.put(x, "w1;t");
        return x;
    }

    /** As many lifts, pistes, guests, characters and ticks as there can be; the queue of lift 0 is full. */
    static SlopeOperator full() {
        SlopeOperator x = new SlopeOperator();
        for (int i = 0; i < 6; i++) {
            x.addLift(i, i + 1, i % 4, 6, 8, 90 + i % 4);
        }
        for (int i = 0; i < 10; i++) {
            x.addPiste(1 + i % 7, i % 7, 1 + i % 3, 9);
        }
        Bounds.addGuests(x, 10, 0, 1);
        Bounds.addGuests(x, 3, 1, 2);
        Bounds.addGuests(x, 3, 7, 3);
        for (int guest = 0; guest < 10; guest++) {
            x.queue(guest, 0);
        }
        x.save();
        x.setWind(9);
        Bounds.advanceBy(x, 1000);
        x.setWind(0);
        x.ski(15, 6);
        x.leave(14);
        x.open(3, false);
        x.open(4, false);
        x.groom(4);
        Bounds.put(x, Bounds.repeat("w0;", 20));
        return x;
    }

    /** Piste 0, of difficulty 1 and length 1, has this wear, at most 32, and is open; 16 guests are about. */
    static SlopeOperator worn(int wear) {
        SlopeOperator x = new SlopeOperator();
        x.addPiste(0, 1, 1, 1);
        x.addPiste(1, 0, 1, 1);
        Bounds.addGuests(x, 16, 0, 3);
        for (int i = 0; i < wear; i++) {
            if (i == 16) {
                bringBack(x);
            }
            x.ski(i % 16, 0);
        }
        return x;
    }

    private static void bringBack(SlopeOperator x) {
        x.advance(1);
        for (int guest = 0; guest < 16; guest++) {
            x.ski(guest, 1);
        }
        x.advance(1);
    }

    /** So many guests stand in the queue of lift 0, which leads from 0 to 1; the others stand at 0. */
    static SlopeOperator waiting(int guests, int inQueue, int interval, int capacity, int ride) {
        SlopeOperator x = new SlopeOperator();
        x.addLift(0, 1, 0, interval, capacity, ride);
        Bounds.addGuests(x, guests, 0, 1);
        for (int guest = 0; guest < inQueue; guest++) {
            x.queue(guest, 0);
        }
        return x;
    }

    /** Each lift, piste and guest has numbers that a new one does not have. */
    static SlopeOperator used() {
        SlopeOperator x = new SlopeOperator();
        for (int i = 0; i < 2; i++) {
            x.addLift(3, 4 + i, 2, 5, 3, 72);
            x.addPiste(3, 5 + i, 2, 7);
        }
        for (int i = 0; i < 6; i++) {
            x.addGuest(3, 2, 13, 0, 8);
            x.queue(i, i % 2);
        }
        x.setWind(5);
        x.advance(9);
        x.advance(9);
        x.endDay();
        for (int i = 0; i < 6; i++) {
            Told.answer(() -> x.ski(0, 0));
            x.addGuest(3, 3, 12, 1, 7);
            x.ski(6 + i, i % 2);
        }
        x.queue(x.addGuest(3, 3, 12, 1, 7), 0);
        Told.answer(() -> x.queue(12, 0));
        x.open(0, false);
        x.open(1, false);
        x.groom(0);
        x.groom(1);
        x.advance(1);
        return x;
    }

    /** Adds 3 lifts, 3 pistes and 14 guests, whose numbers are others than those of used areas. */
    static SlopeOperator other(SlopeOperator x) {
        for (int i = 0; i < 14; i++) {
            x.addGuest(0, 1, 3, 2, 4);
        }
        for (int i = 0; i < 3; i++) {
            x.addLift(0, 1 + i, 1, 6, 2, 10 + i);
            x.addPiste(0, 1 + i, 3, 2);
        }
        return x;
    }
}
