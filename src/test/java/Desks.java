/** Desks in the states that the tests begin with. Each has 3 logs, and uses few of its 512 calls. */
final class Desks {
    static final int LOGS = 3;

    /** A way to bring a new desk into some state. */
    interface Past {
        void live(GroupDesk desk);
    }

    private Desks() {
    }

    static GroupDesk after(Past past) {
        GroupDesk desk = new GroupDesk(LOGS);
        past.live(desk);
        return desk;
    }

    static Past[] all() {
        return new Past[] {Desks::fresh, Desks::stable, Desks::mixing, Desks::full, Desks::stuck, Desks::waiting};
    }

    /** Nothing has been called. */
    static void fresh(GroupDesk desk) {
    }

    /** Group 0 is stable, generation 2, of 1 (heard at 0) and 3 (heard at 7); TIME is 10. */
    static void stable(GroupDesk desk) {
        desk.join(0, 1);
        desk.join(0, 3);
        desk.join(0, 1);
        desk.ticks(7);
        desk.commit(0, 3, 2, 1, 77L);
        desk.ticks(3);
    }

    /** Group 0 mixes since TIME 10: of 1, 3 and 4, generation 2, only 4 has joined; TIME is 15. */
    static void mixing(GroupDesk desk) {
        stable(desk);
        desk.join(0, 4);
        desk.ticks(5);
    }

    /** As stable, without any room. */
    static void full(GroupDesk desk) {
        stable(desk);
        desk.room(0);
    }

    /** As mixing, but past the limit: it would be done, but there is no room. TIME is 31. */
    static void stuck(GroupDesk desk) {
        mixing(desk);
        desk.room(0);
        desk.ticks(16);
    }

    /** As stuck, but there is room for 5 now, and nothing yet that tries again. */
    static void waiting(GroupDesk desk) {
        stuck(desk);
        desk.room(5);
    }
}
