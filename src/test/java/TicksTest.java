/** Promise 11: ticks, and what the terms say of a tick. */
public final class TicksTest {
    public static void main(String[] args) {
        Check.test("n ticks: the TIME", TicksTest::time);
        Check.test("n ticks are as many calls of one", TicksTest::oneByOne);
        Check.test("members that were heard 30 ticks ago are no members any more", TicksTest::silent);
        Check.test("if there were any, it is empty", TicksTest::silentAll);
        Check.test("or mixes", TicksTest::silentSome);
        Check.test("silence counts in a stable group alone", TicksTest::silentWhileMixing);
        Check.test("TIME is not less than the limit: the late are no members any more", TicksTest::late);
        Check.test("without any it is empty, and needs no room", TicksTest::lateAll);
        Check.test("that is the generation, the group is stable", TicksTest::settled);
        Check.test("there is room for one less then", TicksTest::takesRoom);
        Check.test("all members are heard now", TicksTest::heardNow);
        Check.test("if there is no room it goes on mixing", TicksTest::withoutRoom);
        Check.test("it is tried again with each tick", TicksTest::triedAgain);
        Check.test("group by group", TicksTest::groupByGroup);
        Check.test("tick by tick, then group by group", TicksTest::tickByTick);
        Check.test("Illegal argument: n is not 1 .. 200", TicksTest::illegalArgument);
        Check.test("512 calls", TicksTest::asManyAsThereAreCalls);
        Check.test("or TIME would be above 1000000", TicksTest::theEndOfTime);
        Check.done();
    }

    private static void time() {
        GroupDesk desk = new GroupDesk(1);
        Check.due("the least", desk.ticks(1), 1);
        Check.due("the greatest", desk.ticks(200), 201);
        Check.due("the least again", desk.ticks(1), 202);
    }

    private static void oneByOne() {
        for (Desks.Past past : Desks.all()) {
            for (int n = 1; n <= 60; n++) {
                GroupDesk once = Desks.after(past);
                GroupDesk often = Desks.after(past);
                once.ticks(n);
                for (int i = 0; i < n; i++) {
                    often.ticks(1);
                }
                for (int what = 0; what <= 4; what++) {
                    Check.due(n + " ticks, group(0, " + what + ")", once.group(0, what), often.group(0, what));
                }
                Check.due(n + " ticks, notes", once.notes(), often.notes());
            }
        }
    }

    private static void silent() {
        GroupDesk desk = Desks.after(Desks::stable);
        desk.ticks(19);
        Check.due("members, heard 29 ticks ago", desk.group(0, 2), 10);
        Check.due("state", desk.group(0, 1), 2);
        desk.ticks(1);
        Check.due("members, heard 30 ticks ago", desk.group(0, 2), 8);
    }

    private static void silentAll() {
        GroupDesk desk = new GroupDesk(1);
        desk.join(0, 0);
        desk.join(0, 1);
        desk.join(0, 0);
        desk.ticks(30);
        for (int what = 1; what <= 4; what++) {
            Check.due("group(0, " + what + ")", desk.group(0, what), 0);
        }
        Check.due("generation", desk.group(0, 0), 2);
        Check.due("notes", desk.notes(), 2);
    }

    private static void silentSome() {
        GroupDesk desk = Desks.after(Desks::stable);
        desk.ticks(20);
        Check.due("state", desk.group(0, 1), 1);
        Check.due("none has joined", desk.group(0, 3), 0);
        Check.due("limit", desk.group(0, 4), 20);
        Check.due("generation", desk.group(0, 0), 2);
        Check.due("notes", desk.notes(), 3);
        Check.due("join of the one left", desk.join(0, 3), 3);
    }

    private static void silentWhileMixing() {
        GroupDesk desk = Desks.after(Desks::stable);
        desk.ticks(5);
        desk.join(0, 3);
        desk.ticks(19);
        Check.due("members, one heard 34 ticks ago", desk.group(0, 2), 10);
        Check.due("its join", desk.join(0, 1), 3);
        Check.due("members past the limit, without room", Desks.after(Desks::stuck).group(0, 2), 26);
    }

    private static void late() {
        GroupDesk desk = Desks.after(Desks::mixing);
        desk.ticks(14);
        Check.due("members a tick before the limit", desk.group(0, 2), 26);
        Check.due("state a tick before the limit", desk.group(0, 1), 1);
        desk.ticks(1);
        Check.due("members at the limit", desk.group(0, 2), 16);
        Check.due("state at the limit", desk.group(0, 1), 2);
    }

    private static void lateAll() {
        for (int room = 0; room <= 1; room++) {
            GroupDesk desk = Desks.after(Desks::stable);
            desk.leave(0, 1);
            desk.room(room);
            desk.ticks(19);
            Check.due("state a tick before the limit", desk.group(0, 1), 1);
            desk.ticks(1);
            for (int what = 1; what <= 4; what++) {
                Check.due("group(0, " + what + ")", desk.group(0, what), 0);
            }
            Check.due("generation", desk.group(0, 0), 2);
            Check.due("notes", desk.notes(), 3);
            Check.due("room", desk.room(1), room);
        }
    }

    private static void settled() {
        GroupDesk desk = Desks.after(Desks::mixing);
        desk.ticks(15);
        Check.due("generation", desk.group(0, 0), 3);
        Check.due("joined", desk.group(0, 3), 16);
        Check.due("share", desk.share(0, 4), 7);
        Check.due("a commit of it", desk.commit(0, 4, 3, 0, 1L), 0);
        desk.ticks(1);
        Check.due("generation a tick later", desk.group(0, 0), 3);
    }

    private static void takesRoom() {
        GroupDesk desk = Desks.after(Desks::mixing);
        desk.room(1);
        desk.ticks(15);
        Check.due("notes", desk.notes(), 4);
        Check.due("room", desk.room(1), 0);
    }

    private static void heardNow() {
        GroupDesk desk = Desks.after(Desks::mixing);
        desk.join(0, 1);
        desk.ticks(15);
        Check.due("members at the limit", desk.group(0, 2), 18);
        desk.ticks(29);
        Check.due("members, heard 29 ticks ago", desk.group(0, 2), 18);
        desk.ticks(1);
        Check.due("members, heard 30 ticks ago", desk.group(0, 2), 0);
    }

    private static void withoutRoom() {
        GroupDesk desk = Desks.after(Desks::mixing);
        desk.room(0);
        desk.ticks(15);
        Check.due("generation", desk.group(0, 0), 2);
        Check.due("state", desk.group(0, 1), 1);
        Check.due("members, joined or not", desk.group(0, 2), 26);
        Check.due("joined", desk.group(0, 3), 16);
        Check.due("limit", desk.group(0, 4), 0);
        desk.ticks(200);
        Check.due("members far later", desk.group(0, 2), 26);
        Check.due("joined far later", desk.group(0, 3), 16);
        Check.due("notes", desk.notes(), 3);
    }

    private static void triedAgain() {
        GroupDesk desk = Desks.after(Desks::waiting);
        desk.ticks(1);
        Check.due("state", desk.group(0, 1), 2);
        Check.due("members", desk.group(0, 2), 16);
        Check.due("generation", desk.group(0, 0), 3);
        GroupDesk early = new GroupDesk(1);
        early.room(0);
        early.join(0, 0);
        early.ticks(1);
        Check.due("all have joined, before the limit, no room", early.group(0, 1), 1);
        early.room(1);
        early.ticks(1);
        Check.due("all have joined, before the limit", early.group(0, 1), 2);
    }

    private static void groupByGroup() {
        GroupDesk desk = new GroupDesk(1);
        desk.room(0);
        desk.join(7, 0);
        desk.join(2, 0);
        desk.join(0, 0);
        desk.join(4, 0);
        desk.room(2);
        desk.ticks(1);
        Check.due("the first", desk.group(0, 1), 2);
        Check.due("the second", desk.group(2, 1), 2);
        Check.due("no room for the third", desk.group(4, 1), 1);
        Check.due("nor for the fourth", desk.group(7, 1), 1);
        desk.room(2);
        desk.ticks(1);
        Check.due("the third", desk.group(4, 1), 2);
        Check.due("the fourth", desk.group(7, 1), 2);
    }

    private static void tickByTick() {
        GroupDesk desk = new GroupDesk(1);
        desk.join(1, 0);
        desk.join(1, 1);
        desk.ticks(1);
        desk.join(0, 0);
        desk.join(0, 1);
        desk.room(1);
        desk.ticks(25);
        Check.due("group 1, whose limit came first, has the note", desk.group(1, 1), 2);
        Check.due("group 0, whose limit came later, has none", desk.group(0, 1), 1);
    }

    private static void illegalArgument() {
        int[] wrong = {Integer.MIN_VALUE, -200, -1, 0, 201, 1000000, Integer.MAX_VALUE};
        Twins.illegal("ticks(n)", wrong, (desk, number) -> desk.ticks(number));
    }

    private static void asManyAsThereAreCalls() {
        GroupDesk desk = new GroupDesk(8);
        for (int call = 1; call <= 512; call++) {
            Check.due("call " + call, desk.ticks(200), 200 * call);
        }
    }

    // 512 calls do not reach this far, but the document names the edge and the class keeps it.
    private static void theEndOfTime() {
        GroupDesk desk = new GroupDesk(1);
        for (int i = 0; i < 4999; i++) {
            desk.ticks(200);
        }
        Check.due("199 ticks", desk.ticks(199), 999999);
        Check.illegal("200 ticks, far too many", () -> desk.ticks(200));
        Check.illegal("two ticks, one too many", () -> desk.ticks(2));
        Check.due("the last tick", desk.ticks(1), 1000000);
        Check.illegal("one tick too many", () -> desk.ticks(1));
        GroupDesk other = new GroupDesk(1);
        for (int i = 0; i < 4999; i++) {
            other.ticks(200);
        }
        Check.due("the last 200 ticks", other.ticks(200), 1000000);
    }
}
