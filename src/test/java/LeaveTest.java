/** Promise 3: leave. */
public final class LeaveTest {
    public static void main(String[] args) {
        Check.test("It is no member any more", LeaveTest::noMemberAnyMore);
        Check.test("without any the group is empty: it was stable", LeaveTest::theLastOfAStableGroup);
        Check.test("without any the group is empty: it was mixing", LeaveTest::theLastOfAMixingGroup);
        Check.test("without any the group is empty: there is no room", LeaveTest::theLastWithoutRoom);
        Check.test("a stable one mixes", LeaveTest::aStableGroupMixes);
        Check.test("a mixing one goes on as it was", LeaveTest::aMixingGroupGoesOn);
        Check.test("then it may be done mixing: all have joined", LeaveTest::doneWhenAllHaveJoined);
        Check.test("then it may be done mixing: at the limit", LeaveTest::doneAtTheLimit);
        Check.test("past the limit without any that joined it is empty", LeaveTest::noneThatJoined);
        Check.test("if there is no room it goes on mixing", LeaveTest::withoutRoom);
        Check.test("it is tried again with each leave", LeaveTest::triedAgain);
        Check.test("a leave is of its own group alone", LeaveTest::itsOwnGroupAlone);
        Check.test("STRANGER, which changes nothing", LeaveTest::stranger);
        Check.test("Illegal argument, which changes nothing", LeaveTest::illegalArgument);
        Check.done();
    }

    private static void noMemberAnyMore() {
        GroupDesk desk = Desks.after(Desks::stable);
        Check.due("leave", desk.leave(0, 3), 1);
        Check.due("members", desk.group(0, 2), 2);
        Check.due("its beat", desk.beat(0, 3, 2), -8);
        Check.due("its commit", desk.commit(0, 3, 2, 1, 1L), -8);
        Check.due("leave again", desk.leave(0, 3), -8);
        Check.due("leave of one who has joined", Desks.after(Desks::mixing).leave(0, 4), 1);
    }

    private static void emptyAfter(String leave, GroupDesk desk, int generation, int notes) {
        Check.due(leave + ": generation", desk.group(0, 0), generation);
        for (int what = 1; what <= 4; what++) {
            Check.due(leave + ": group(0, " + what + ")", desk.group(0, what), 0);
        }
        Check.due(leave + ": notes", desk.notes(), notes);
    }

    private static void theLastOfAStableGroup() {
        GroupDesk desk = new GroupDesk(8);
        desk.join(0, 0);
        Check.due("leave", desk.leave(0, 0), 1);
        emptyAfter("leave", desk, 1, 1);
    }

    private static void theLastOfAMixingGroup() {
        GroupDesk desk = Desks.after(Desks::stable);
        desk.leave(0, 1);
        Check.due("leave of one who has not joined", desk.leave(0, 3), 1);
        emptyAfter("leave of one who has not joined", desk, 2, 3);
        desk.room(0);
        desk.join(0, 6);
        Check.due("leave of one who has joined", desk.leave(0, 6), 1);
        emptyAfter("leave of one who has joined", desk, 2, 3);
    }

    private static void theLastWithoutRoom() {
        GroupDesk desk = new GroupDesk(8);
        desk.join(0, 0);
        desk.room(0);
        Check.due("leave", desk.leave(0, 0), 1);
        emptyAfter("leave", desk, 1, 1);
    }

    private static void aStableGroupMixes() {
        GroupDesk desk = Desks.after(Desks::stable);
        desk.leave(0, 3);
        Check.due("state", desk.group(0, 1), 1);
        Check.due("none has joined", desk.group(0, 3), 0);
        Check.due("limit", desk.group(0, 4), 20);
        Check.due("generation", desk.group(0, 0), 2);
        Check.due("join of the other", desk.join(0, 1), 3);
    }

    private static void aMixingGroupGoesOn() {
        GroupDesk desk = Desks.after(Desks::mixing);
        desk.leave(0, 3);
        Check.due("state", desk.group(0, 1), 1);
        Check.due("members", desk.group(0, 2), 18);
        Check.due("joined", desk.group(0, 3), 16);
        Check.due("limit", desk.group(0, 4), 15);
        desk.leave(0, 4);
        Check.due("members, none of them has joined", desk.group(0, 2), 2);
        Check.due("joined, none of them", desk.group(0, 3), 0);
        Check.due("limit, none of them has joined", desk.group(0, 4), 15);
    }

    private static void doneWhenAllHaveJoined() {
        GroupDesk desk = Desks.after(Desks::mixing);
        desk.leave(0, 1);
        Check.due("leave of the last one waited for", desk.leave(0, 3), 1);
        Check.due("state", desk.group(0, 1), 2);
        Check.due("generation", desk.group(0, 0), 3);
        Check.due("members", desk.group(0, 2), 16);
        Check.due("limit", desk.group(0, 4), 0);
        Check.due("notes", desk.notes(), 4);
    }

    private static void doneAtTheLimit() {
        for (int past = 0; past < 3; past++) {
            GroupDesk desk = Desks.after(Desks::mixing);
            desk.room(0);
            desk.ticks(15 + past);
            desk.room(5);
            Check.due("leave, the limit over for " + past, desk.leave(0, 1), 1);
            Check.due("state", desk.group(0, 1), 2);
            Check.due("members without the late", desk.group(0, 2), 16);
        }
        GroupDesk early = Desks.after(Desks::mixing);
        early.room(0);
        early.ticks(14);
        early.room(5);
        Check.due("leave a tick before the limit", early.leave(0, 1), 1);
        Check.due("members with the late", early.group(0, 2), 24);
    }

    private static void noneThatJoined() {
        GroupDesk desk = Desks.after(Desks::stuck);
        Check.due("leave of the only one who had joined", desk.leave(0, 4), 1);
        emptyAfter("leave of the only one who had joined", desk, 2, 3);
    }

    private static void withoutRoom() {
        GroupDesk desk = Desks.after(Desks::mixing);
        desk.room(0);
        desk.leave(0, 1);
        Check.due("leave of the last one waited for", desk.leave(0, 3), 1);
        Check.due("state", desk.group(0, 1), 1);
        Check.due("members", desk.group(0, 2), 16);
        Check.due("joined", desk.group(0, 3), 16);
        Check.due("limit", desk.group(0, 4), 15);
        Check.due("generation", desk.group(0, 0), 2);
        GroupDesk late = Desks.after(Desks::stuck);
        Check.due("leave past the limit", late.leave(0, 1), 1);
        Check.due("members, joined or not", late.group(0, 2), 24);
        Check.due("joined past the limit", late.group(0, 3), 16);
    }

    private static void triedAgain() {
        GroupDesk desk = Desks.after(Desks::mixing);
        desk.room(0);
        desk.join(0, 1);
        desk.join(0, 3);
        desk.room(1);
        Check.due("leave of one of those who have joined", desk.leave(0, 1), 1);
        Check.due("state", desk.group(0, 1), 2);
        Check.due("members", desk.group(0, 2), 24);
        Check.due("room", desk.room(1), 0);
    }

    private static void itsOwnGroupAlone() {
        GroupDesk desk = Desks.after(Desks::waiting);
        desk.join(1, 4);
        Check.due("leave of another group", desk.leave(1, 4), 1);
        Check.due("state of the other", desk.group(1, 1), 0);
        Check.due("state", desk.group(0, 1), 1);
        Check.due("members", desk.group(0, 2), 26);
    }

    private static void stranger() {
        for (Desks.Past past : Desks.all()) {
            Twins.unchanged("leave(0, 0)", past, desk -> desk.leave(0, 0), -8);
            Twins.unchanged("leave(0, 7)", past, desk -> desk.leave(0, 7), -8);
            Twins.unchanged("leave(1, 1)", past, desk -> desk.leave(1, 1), -8);
        }
        Twins.unchanged("leave(0, 1)", Desks::fresh, desk -> desk.leave(0, 1), -8);
    }

    private static void illegalArgument() {
        Twins.illegalGroupOrMember("leave(group, 3)", (desk, number) -> desk.leave(number, 3));
        Twins.illegalGroupOrMember("leave(0, member)", (desk, number) -> desk.leave(0, number));
        Twins.illegal("leave(8, -1)", desk -> desk.leave(8, -1));
    }
}
