/** Promise 10: restart. */
public final class RestartTest {
    public static void main(String[] args) {
        GroupDesk desk = new GroupDesk(4);
        Check.due("restart of nothing", desk.restart(), 0);
        desk.join(0, 0);
        desk.join(7, 1);
        desk.join(7, 2);
        desk.commit(0, 0, 1, 3, 44L);
        desk.ticks(4);
        desk.room(10);
        Check.due("restart of a stable and a mixing group", desk.restart(), 3);
        for (int group = 0; group < 8; group++) {
            Check.due("state of " + group, desk.group(group, 1), 0);
            Check.due("members of " + group, desk.group(group, 2), 0);
            Check.due("joined of " + group, desk.group(group, 3), 0);
            Check.due("limit of " + group, desk.group(group, 4), 0);
        }
        Check.due("generation of 0", desk.group(0, 0), 1);
        Check.due("generation of 7", desk.group(7, 0), 1);
        Check.due("committed", desk.committed(0, 3), 44L);
        Check.due("notes", desk.notes(), 3);
        Check.due("room", desk.room(10), 10);
        Check.due("time", desk.ticks(1), 5);
        Check.due("a beat after it", desk.beat(0, 0, 1), -8);
        Check.due("a join after it", desk.join(7, 2), 2);
        Check.due("restart again", desk.restart(), 1);
        Check.due("and again", desk.restart(), 0);
        Check.done();
    }
}
