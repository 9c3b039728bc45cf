/** Promise 11: ticks. */
public final class TicksTest {
    public static void main(String[] args) {
        time();
        theSilent();
        theLate();
        silenceWhileMixing();
        settlingIsHearing();
        triedAgainWithEachTick();
        wrongArguments();
        theEndOfTime();
        Check.done();
    }

    private static void time() {
        GroupDesk desk = new GroupDesk(1);
        Check.due("ticks(1)", desk.ticks(1), 1);
        Check.due("ticks(200)", desk.ticks(200), 201);
    }

    private static GroupDesk stableOfTwo() {
        GroupDesk desk = new GroupDesk(1);
        desk.join(0, 0);
        desk.join(0, 1);
        desk.join(0, 0);
        return desk;
    }

    private static void theSilent() {
        GroupDesk desk = stableOfTwo();
        desk.ticks(29);
        Check.due("members, silent for 29", desk.group(0, 2), 3);
        desk.beat(0, 1, 2);
        desk.ticks(1);
        Check.due("members, one silent for 30", desk.group(0, 2), 2);
        Check.due("state", desk.group(0, 1), 1);
        Check.due("joined", desk.group(0, 3), 0);
        Check.due("limit", desk.group(0, 4), 20);
        desk.ticks(20);
        Check.due("none joined in time", desk.group(0, 1), 0);
        Check.due("generation", desk.group(0, 0), 2);

        GroupDesk both = stableOfTwo();
        both.ticks(30);
        Check.due("both silent for 30", both.group(0, 1), 0);
        Check.due("members of none", both.group(0, 2), 0);
        Check.due("notes", both.notes(), 2);

        GroupDesk far = stableOfTwo();
        far.ticks(29);
        far.beat(0, 1, 2);
        far.ticks(200);
        Check.due("all of it in one call", far.group(0, 1), 0);
    }

    private static void theLate() {
        GroupDesk desk = stableOfTwo();
        desk.join(0, 2);
        desk.join(0, 1);
        desk.ticks(19);
        Check.due("state before the limit", desk.group(0, 1), 1);
        desk.ticks(1);
        Check.due("state at the limit", desk.group(0, 1), 2);
        Check.due("members at the limit", desk.group(0, 2), 6);
        Check.due("generation at the limit", desk.group(0, 0), 3);
    }

    private static void silenceWhileMixing() {
        GroupDesk desk = stableOfTwo();
        desk.ticks(15);
        desk.join(0, 1);
        desk.ticks(19);
        Check.due("silent for 34, but it is mixing", desk.group(0, 2), 3);
        Check.due("a beat then", desk.beat(0, 0, 2), 1);
        Check.due("a join then", desk.join(0, 0), 3);
    }

    private static void settlingIsHearing() {
        GroupDesk desk = stableOfTwo();
        desk.join(0, 1);
        desk.ticks(15);
        desk.join(0, 0);
        desk.ticks(29);
        Check.due("both are heard when it settles", desk.group(0, 2), 3);
        desk.ticks(1);
        Check.due("and silent 30 ticks later", desk.group(0, 2), 0);

        GroupDesk late = stableOfTwo();
        late.join(0, 1);
        late.ticks(49);
        Check.due("heard at the limit, 29 ticks ago", late.group(0, 2), 2);
        late.ticks(1);
        Check.due("heard at the limit, 30 ticks ago", late.group(0, 2), 0);
    }

    private static void triedAgainWithEachTick() {
        GroupDesk desk = stableOfTwo();
        desk.join(0, 1);
        desk.room(0);
        desk.ticks(25);
        Check.due("without room all stay", desk.group(0, 2), 3);
        Check.due("joined or not", desk.group(0, 3), 2);
        Check.due("limit", desk.group(0, 4), 0);
        desk.room(1);
        desk.ticks(1);
        Check.due("with room the late are none", desk.group(0, 2), 2);
        Check.due("generation", desk.group(0, 0), 3);
    }

    private static void wrongArguments() {
        GroupDesk desk = stableOfTwo();
        int[] wrong = {Integer.MIN_VALUE, -1, 0, 201, Integer.MAX_VALUE};
        for (int number : wrong) {
            Check.illegal("ticks(" + number + ")", () -> desk.ticks(number));
        }
        Check.due("ticks that throw change nothing", desk.ticks(1), 1);
    }

    // 512 calls do not reach this far, but the document names the edge and the class keeps it.
    private static void theEndOfTime() {
        GroupDesk desk = new GroupDesk(1);
        for (int i = 0; i < 4999; i++) {
            desk.ticks(200);
        }
        Check.due("time", desk.ticks(199), 999999);
        Check.illegal("two ticks too many by one", () -> desk.ticks(2));
        Check.due("the last tick", desk.ticks(1), 1000000);
        Check.illegal("one tick too many", () -> desk.ticks(1));
    }
}
