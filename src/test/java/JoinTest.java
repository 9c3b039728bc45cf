/** Promise 2: join. */
public final class JoinTest {
    public static void main(String[] args) {
        Check.test("The member, if it is none, is one", JoinTest::itIsAMember);
        Check.test("of a full group all eight are members", JoinTest::allEight);
        Check.test("an empty group mixes", JoinTest::anEmptyGroupMixes);
        Check.test("a stable group mixes", JoinTest::aStableGroupMixes);
        Check.test("a stable one also when it was a member already", JoinTest::aMemberAlready);
        Check.test("a mixing one goes on as it was", JoinTest::aMixingGroupGoesOn);
        Check.test("it has joined", JoinTest::itHasJoined);
        Check.test("and is heard", JoinTest::itIsHeard);
        Check.test("then the group may be done mixing: all have joined", JoinTest::doneWhenAllHaveJoined);
        Check.test("then the group may be done mixing: at the limit", JoinTest::doneAtTheLimit);
        Check.test("its generation if it is stable then", JoinTest::answersTheGeneration);
        Check.test("else NONE", JoinTest::answersNone);
        Check.test("there is room for one less then", JoinTest::takesRoom);
        Check.test("if there is no room it goes on mixing", JoinTest::withoutRoom);
        Check.test("without room past the limit: all members, joined or not", JoinTest::withoutRoomPastTheLimit);
        Check.test("it is tried again with each join", JoinTest::triedAgain);
        Check.test("a join is of its own group alone", JoinTest::itsOwnGroupAlone);
        Check.test("512 calls", JoinTest::asManyAsThereAreCalls);
        Check.test("Illegal argument, which changes nothing", JoinTest::illegalArgument);
        Check.done();
    }

    private static void itIsAMember() {
        GroupDesk desk = new GroupDesk(2);
        desk.join(7, 7);
        Check.due("members", desk.group(7, 2), 128);
        desk.join(7, 0);
        Check.due("members", desk.group(7, 2), 129);
        desk.join(7, 0);
        Check.due("members after joining twice", desk.group(7, 2), 129);
    }

    private static void allEight() {
        GroupDesk desk = new GroupDesk(2);
        Check.due("join(3, 0)", desk.join(3, 0), 1);
        for (int member = 1; member < 8; member++) {
            Check.due("join(3, " + member + ")", desk.join(3, member), -1);
        }
        Check.due("members", desk.group(3, 2), 255);
        Check.due("joined", desk.group(3, 3), 254);
        Check.due("the last one joins", desk.join(3, 0), 2);
        Check.due("members of the stable group", desk.group(3, 2), 255);
    }

    private static void anEmptyGroupMixes() {
        GroupDesk desk = new GroupDesk(2);
        desk.ticks(100);
        desk.room(0);
        desk.join(0, 4);
        Check.due("state", desk.group(0, 1), 1);
        Check.due("joined", desk.group(0, 3), 16);
        Check.due("limit", desk.group(0, 4), 20);
    }

    private static void aStableGroupMixes() {
        GroupDesk desk = Desks.after(Desks::stable);
        desk.join(0, 0);
        Check.due("state", desk.group(0, 1), 1);
        Check.due("members", desk.group(0, 2), 11);
        Check.due("joined", desk.group(0, 3), 1);
        Check.due("limit", desk.group(0, 4), 20);
        Check.due("generation", desk.group(0, 0), 2);
    }

    private static void aMemberAlready() {
        GroupDesk desk = Desks.after(Desks::stable);
        Check.due("join of a member", desk.join(0, 3), -1);
        Check.due("state", desk.group(0, 1), 1);
        Check.due("members", desk.group(0, 2), 10);
        Check.due("joined", desk.group(0, 3), 8);
        Check.due("limit", desk.group(0, 4), 20);
        GroupDesk alone = new GroupDesk(2);
        alone.join(0, 0);
        Check.due("join of the only member", alone.join(0, 0), 2);
    }

    private static void aMixingGroupGoesOn() {
        GroupDesk desk = Desks.after(Desks::mixing);
        Check.due("join of a new one", desk.join(0, 0), -1);
        Check.due("limit after a new one", desk.group(0, 4), 15);
        Check.due("joined after a new one", desk.group(0, 3), 17);
        Check.due("join of one who has joined", desk.join(0, 4), -1);
        Check.due("limit after one who has joined", desk.group(0, 4), 15);
        Check.due("joined after one who has joined", desk.group(0, 3), 17);
        Check.due("join of one who has not", desk.join(0, 3), -1);
        Check.due("joined after one who has not", desk.group(0, 3), 25);
    }

    private static void itHasJoined() {
        GroupDesk desk = Desks.after(Desks::mixing);
        Check.due("a beat before", desk.beat(0, 3, 2), 1);
        desk.join(0, 3);
        Check.due("a beat after", desk.beat(0, 3, 2), 0);
    }

    private static void itIsHeard() {
        GroupDesk desk = new GroupDesk(2);
        desk.join(0, 0);
        desk.ticks(29);
        Check.due("join again", desk.join(0, 0), 2);
        desk.ticks(29);
        Check.due("members 29 ticks after", desk.group(0, 2), 1);
        desk.ticks(1);
        Check.due("members 30 ticks after", desk.group(0, 2), 0);
    }

    private static void doneWhenAllHaveJoined() {
        GroupDesk desk = Desks.after(Desks::mixing);
        desk.join(0, 1);
        Check.due("state, one is missing", desk.group(0, 1), 1);
        Check.due("join of the last", desk.join(0, 3), 3);
        Check.due("state", desk.group(0, 1), 2);
        Check.due("members", desk.group(0, 2), 26);
        Check.due("joined", desk.group(0, 3), 26);
        Check.due("limit", desk.group(0, 4), 0);
    }

    private static void doneAtTheLimit() {
        for (int past = 0; past < 3; past++) {
            GroupDesk desk = Desks.after(Desks::mixing);
            desk.room(0);
            desk.ticks(15 + past);
            desk.room(5);
            Check.due("join, the limit over for " + past, desk.join(0, 0), 3);
            Check.due("members without the late", desk.group(0, 2), 17);
        }
        GroupDesk early = Desks.after(Desks::mixing);
        early.room(0);
        early.ticks(14);
        early.room(5);
        Check.due("join a tick before the limit", early.join(0, 0), -1);
        Check.due("members with the late", early.group(0, 2), 27);
    }

    private static void answersTheGeneration() {
        GroupDesk desk = new GroupDesk(2);
        Check.due("the first", desk.join(0, 0), 1);
        Check.due("the second", desk.join(0, 0), 2);
        desk.leave(0, 0);
        Check.due("of a group that was empty again", desk.join(0, 5), 3);
        Check.due("group(0, 0)", desk.group(0, 0), 3);
    }

    private static void answersNone() {
        GroupDesk desk = Desks.after(Desks::stable);
        Check.due("not all have joined", desk.join(0, 0), -1);
        Check.due("no room", Desks.after(Desks::stuck).join(0, 1), -1);
    }

    private static void takesRoom() {
        GroupDesk desk = new GroupDesk(2);
        desk.room(2);
        Check.due("join", desk.join(0, 0), 1);
        Check.due("room", desk.room(1), 1);
        Check.due("join with room for one", desk.join(0, 0), 2);
        Check.due("join without", desk.join(0, 0), -1);
        Check.due("room", desk.room(1), 0);
        Check.due("notes", desk.notes(), 2);
    }

    private static void withoutRoom() {
        GroupDesk desk = Desks.after(Desks::mixing);
        desk.room(0);
        desk.join(0, 1);
        Check.due("join of the last", desk.join(0, 3), -1);
        Check.due("generation", desk.group(0, 0), 2);
        Check.due("state", desk.group(0, 1), 1);
        Check.due("members", desk.group(0, 2), 26);
        Check.due("joined", desk.group(0, 3), 26);
        Check.due("limit", desk.group(0, 4), 15);
        Check.due("notes", desk.notes(), 3);
    }

    private static void withoutRoomPastTheLimit() {
        GroupDesk desk = Desks.after(Desks::stuck);
        desk.join(0, 0);
        Check.due("state", desk.group(0, 1), 1);
        Check.due("members", desk.group(0, 2), 27);
        Check.due("joined", desk.group(0, 3), 17);
        Check.due("limit", desk.group(0, 4), 0);
        Check.due("one of the late may still join", desk.join(0, 1), -1);
        desk.room(1);
        desk.ticks(1);
        Check.due("and is a member then", desk.group(0, 2), 19);
    }

    private static void triedAgain() {
        GroupDesk desk = Desks.after(Desks::waiting);
        Check.due("join of one who has joined", desk.join(0, 4), 3);
        Check.due("members", desk.group(0, 2), 16);
        Check.due("room", desk.room(1), 4);
    }

    private static void itsOwnGroupAlone() {
        GroupDesk desk = Desks.after(Desks::waiting);
        Check.due("join of another group", desk.join(1, 4), 1);
        Check.due("state of the other", desk.group(1, 1), 2);
        Check.due("members of the other", desk.group(1, 2), 16);
        Check.due("state", desk.group(0, 1), 1);
        Check.due("members", desk.group(0, 2), 26);
        Check.due("room", desk.room(1), 4);
    }

    private static void asManyAsThereAreCalls() {
        GroupDesk desk = new GroupDesk(2);
        for (int call = 1; call <= 510; call++) {
            Check.due("join " + call, desk.join(0, 0), call);
        }
        Check.due("notes", desk.notes(), 510);
        Check.due("room", desk.room(1), 490);
    }

    private static void illegalArgument() {
        Twins.illegalGroupOrMember("join(group, 3)", (desk, number) -> desk.join(number, 3));
        Twins.illegalGroupOrMember("join(0, member)", (desk, number) -> desk.join(0, number));
        Twins.illegal("join(8, -1)", desk -> desk.join(8, -1));
    }
}
