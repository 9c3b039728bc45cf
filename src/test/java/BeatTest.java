/** Promise 4: beat. */
public final class BeatTest {
    public static void main(String[] args) {
        Check.test("A member says that it is there, and is heard", BeatTest::itIsHeard);
        Check.test("0", BeatTest::zero);
        Check.test("or 1 if the group is mixing and it has not joined", BeatTest::one);
        Check.test("a beat is no join", BeatTest::noJoin);
        Check.test("a beat does not try again to end the mixing", BeatTest::triesNothing);
        Check.test("STRANGER, which changes nothing", BeatTest::stranger);
        Check.test("OLD, which changes nothing", BeatTest::old);
        Check.test("it is not heard then", BeatTest::notHeardThen);
        Check.test("STRANGER stands before OLD", BeatTest::strangerBeforeOld);
        Check.test("Illegal argument, which changes nothing", BeatTest::illegalArgument);
        Check.done();
    }

    private static void itIsHeard() {
        GroupDesk desk = Desks.after(Desks::stable);
        desk.ticks(19);
        Check.due("beat, heard 29 ticks ago", desk.beat(0, 1, 2), 0);
        desk.ticks(1);
        Check.due("members", desk.group(0, 2), 10);
        desk.ticks(6);
        desk.beat(0, 3, 2);
        desk.ticks(22);
        Check.due("members 29 ticks after the beat", desk.group(0, 2), 10);
        desk.ticks(1);
        Check.due("members 30 ticks after the beat", desk.group(0, 2), 8);
    }

    private static void zero() {
        GroupDesk desk = Desks.after(Desks::stable);
        Check.due("in a stable group", desk.beat(0, 1, 2), 0);
        Check.due("of one who has joined a mixing group", Desks.after(Desks::mixing).beat(0, 4, 2), 0);
        desk.room(0);
        desk.join(5, 7);
        Check.due("of a group without any generation yet", desk.beat(5, 7, 0), 0);
    }

    private static void one() {
        GroupDesk desk = Desks.after(Desks::mixing);
        Check.due("of one who has not joined", desk.beat(0, 1, 2), 1);
        desk.join(0, 1);
        Check.due("of one who has", desk.beat(0, 1, 2), 0);
        Check.due("of one who has not yet", desk.beat(0, 3, 2), 1);
        Check.due("past the limit", Desks.after(Desks::stuck).beat(0, 1, 2), 1);
        GroupDesk left = Desks.after(Desks::stable);
        left.leave(0, 3);
        Check.due("after another left", left.beat(0, 1, 2), 1);
    }

    private static void noJoin() {
        GroupDesk desk = Desks.after(Desks::mixing);
        desk.ticks(14);
        desk.beat(0, 1, 2);
        Check.due("joined", desk.group(0, 3), 16);
        desk.ticks(1);
        Check.due("members at the limit", desk.group(0, 2), 16);
    }

    private static void triesNothing() {
        Twins.unchanged("beat of one who has joined", Desks::waiting, desk -> desk.beat(0, 4, 2), 0);
        Twins.unchanged("beat of one who has not", Desks::waiting, desk -> desk.beat(0, 1, 2), 1);
    }

    private static void stranger() {
        for (Desks.Past past : Desks.all()) {
            Twins.unchanged("beat(0, 0, 2)", past, desk -> desk.beat(0, 0, 2), -8);
            Twins.unchanged("beat(1, 1, 0)", past, desk -> desk.beat(1, 1, 0), -8);
        }
        GroupDesk desk = Desks.after(Desks::mixing);
        desk.ticks(15);
        Check.due("of one who came too late", desk.beat(0, 1, 3), -8);
        desk.restart();
        Check.due("after a restart", desk.beat(0, 4, 3), -8);
        GroupDesk silent = Desks.after(Desks::stable);
        silent.ticks(20);
        Check.due("of one who was silent", silent.beat(0, 1, 2), -8);
        Check.due("of one who was not", silent.beat(0, 3, 2), 1);
    }

    private static void old() {
        int[] others = {Integer.MIN_VALUE, -2, -1, 0, 1, 3, Integer.MAX_VALUE};
        for (int generation : others) {
            Desks.Past[] pasts = {Desks::stable, Desks::mixing, Desks::full, Desks::stuck, Desks::waiting};
            for (Desks.Past past : pasts) {
                Twins.unchanged("beat of " + generation, past, desk -> desk.beat(0, 1, generation), -9);
            }
        }
        GroupDesk desk = Desks.after(Desks::mixing);
        desk.ticks(15);
        Check.due("of the generation before", desk.beat(0, 4, 2), -9);
        Check.due("of the new one", desk.beat(0, 4, 3), 0);
    }

    private static void notHeardThen() {
        GroupDesk desk = Desks.after(Desks::stable);
        desk.ticks(19);
        Check.due("beat of an old generation", desk.beat(0, 1, 1), -9);
        desk.ticks(1);
        Check.due("members", desk.group(0, 2), 8);
    }

    private static void strangerBeforeOld() {
        Check.due("in a stable group", Desks.after(Desks::stable).beat(0, 0, 1), -8);
        Check.due("in a mixing group", Desks.after(Desks::mixing).beat(0, 0, 1), -8);
        Check.due("in an empty group", new GroupDesk(1).beat(0, 0, 1), -8);
    }

    private static void illegalArgument() {
        Twins.illegalGroupOrMember("beat(group, 3, 2)", (desk, number) -> desk.beat(number, 3, 2));
        Twins.illegalGroupOrMember("beat(0, member, 2)", (desk, number) -> desk.beat(0, number, 2));
        Twins.illegal("beat(8, -1, 1)", desk -> desk.beat(8, -1, 1));
    }
}
