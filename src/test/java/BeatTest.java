/** Promise 4: beat. */
public final class BeatTest {
    public static void main(String[] args) {
        answers();
        theOrderOfRefusals();
        heardOrNot();
        wrongArguments();
        Check.done();
    }

    private static void answers() {
        GroupDesk desk = new GroupDesk(2);
        desk.join(3, 0);
        Check.due("beat in a stable group", desk.beat(3, 0, 1), 0);
        desk.join(3, 1);
        Check.due("beat of one who has not joined", desk.beat(3, 0, 1), 1);
        Check.due("beat of one who has joined", desk.beat(3, 1, 1), 0);
        Check.due("a beat is no join", desk.group(3, 3), 2);
        Check.due("beat of the generation to come", desk.beat(3, 0, 2), -9);
        desk.join(3, 0);
        Check.due("beat of the generation before", desk.beat(3, 0, 1), -9);
        Check.due("beat of the new generation", desk.beat(3, 0, 2), 0);
    }

    private static void theOrderOfRefusals() {
        GroupDesk desk = new GroupDesk(2);
        Check.due("beat in an empty group", desk.beat(0, 0, 0), -8);
        desk.join(0, 0);
        Check.due("a stranger's beat, right generation", desk.beat(0, 1, 1), -8);
        Check.due("a stranger's beat, wrong generation", desk.beat(0, 1, 0), -8);
        int[] old = {Integer.MIN_VALUE, -1, 0, 2, Integer.MAX_VALUE};
        for (int generation : old) {
            Check.due("beat of generation " + generation, desk.beat(0, 0, generation), -9);
        }
    }

    private static void heardOrNot() {
        GroupDesk desk = new GroupDesk(2);
        desk.join(0, 0);
        desk.ticks(29);
        Check.due("beat in time", desk.beat(0, 0, 1), 0);
        desk.ticks(29);
        Check.due("heard 29 ticks ago", desk.group(0, 2), 1);
        Check.due("beat of an old generation", desk.beat(0, 0, 0), -9);
        desk.ticks(1);
        Check.due("that was not heard", desk.group(0, 2), 0);
        Check.due("beat too late", desk.beat(0, 0, 1), -8);
    }

    private static void wrongArguments() {
        GroupDesk desk = new GroupDesk(2);
        desk.join(0, 0);
        int[] wrong = {Integer.MIN_VALUE, -1, 8, 32, Integer.MAX_VALUE};
        for (int number : wrong) {
            Check.illegal("beat(" + number + ", 0, 1)", () -> desk.beat(number, 0, 1));
            Check.illegal("beat(0, " + number + ", 1)", () -> desk.beat(0, number, 1));
        }
    }
}
