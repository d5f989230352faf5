import java.util.function.Consumer;

/**
 * Two objects with the same past, of which one gets a call more that is to change nothing: whatever
 * is asked of them from there on, the list, the chain and what is armed too, they answer alike.
 */
final class Twins {
    private static final int FUTURES = 5;

    private Twins() {
    }

    static void stayAlike(Check check, String when, Consumer<SealedSectors> past, Consumer<SealedSectors> call) {
        for (int future = 0; future < FUTURES; future++) {
            SealedSectors plain = new SealedSectors();
            SealedSectors other = new SealedSectors();
            past.accept(plain);
            past.accept(other);
            call.accept(other);
            String name = when + ", future " + future;
            ask(check, name + ", at once", other, plain);
            live(check, name, future, other, plain);
            ask(check, name + ", later", other, plain);
        }
    }

    private static void ask(Check check, String name, SealedSectors x, SealedSectors y) {
        check.same(name, Shot.of(x), Shot.of(y));
        check.due(name + ": isOn()", x.isOn(), y.isOn());
        check.due(name + ": steps()", x.steps(), y.steps());
        check.due(name + ": writes()", x.writes(), y.writes());
        check.due(name + ": sound()", x.sound(), y.sound());
        for (int s = 0; s < 8; s++) {
            check.due(name + ": read(" + s + ")", x.read(s), y.read(s));
        }
    }

    private static void live(Check check, String name, int future, SealedSectors x, SealedSectors y) {
        switch (future) {
            case 0:
                check.due(name + ": write(2, 21)", x.write(2, 21), y.write(2, 21));
                check.due(name + ": write(6, 61)", x.write(6, 61), y.write(6, 61));
                break;
            case 1:
                // As many as tell how many steps are left.
                for (int i = 0; i < 60; i++) {
                    check.due(name + ": sync() " + i, x.sync(), y.sync());
                }
                break;
            case 2:
                check.due(name + ": checkpoint()", x.checkpoint(), y.checkpoint());
                check.due(name + ": write(1, 12)", x.write(1, 12), y.write(1, 12));
                break;
            case 3:
                check.due(name + ": mount()", x.mount(), y.mount());
                check.due(name + ": write(1, 12)", x.write(1, 12), y.write(1, 12));
                break;
            default:
                check.due(name + ": sync()", x.sync(), y.sync());
                check.due(name + ": mount()", x.mount(), y.mount());
                check.due(name + ": checkpoint()", x.checkpoint(), y.checkpoint());
                break;
        }
    }
}
