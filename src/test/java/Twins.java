import java.util.List;
import java.util.function.Consumer;
import java.util.function.Function;
import java.util.function.Supplier;

/** Calls that are due to change nothing: a net with such a call goes on as one without it. */
final class Twins {
    private final Check check;
    private final Supplier<Net> scene;

    Twins(Check check, Supplier<Net> scene) {
        this.check = check;
        this.scene = scene;
    }

    void refuseArgument(String call, Consumer<Net> run) {
        stayAlike(call, net -> check.refusesArgument(call, () -> run.accept(net)));
    }

    void refuseState(String call, Consumer<Net> run) {
        stayAlike(call, net -> check.refusesState(call, () -> run.accept(net)));
    }

    void answer(String call, Function<Net, Object> run, Object want) {
        stayAlike(call, net -> {
            Object got = run.apply(net);
            if (!want.equals(got)) {
                check.tell(call + " answered " + got + ", due is " + want);
            }
        });
    }

    private void stayAlike(String call, Consumer<Net> run) {
        for (int way = 0; way < Probe.WAYS; way++) {
            Net touched = scene.get();
            Net untouched = scene.get();
            run.accept(touched);
            int calls = touched.callsLeft();
            compare(call, Probe.go(way, touched, calls), Probe.go(way, untouched, calls));
        }
    }

    private void compare(String call, List<String> got, List<String> want) {
        for (int n = 0; n < want.size(); n++) {
            if (!got.get(n).equals(want.get(n))) {
                check.tell("behind " + call + ", which changes nothing: " + got.get(n) + ", without it: " + want.get(n));
                return;
            }
        }
    }
}
