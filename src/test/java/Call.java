import java.util.Arrays;
import java.util.stream.Collectors;

/**
 * One call of the public face, which can be made of an object of the class and
 * of the model; the last argument of map is 1 for writable, else 0.
 */
record Call(String method, int... arguments) {
    int of(FourWayKernel x) {
        int[] a = arguments;
        return switch (method) {
            case "thread" -> x.thread(a[0]);
            case "load" -> x.load(a[0], a[1]);
            case "store" -> x.store(a[0], a[1], a[2]);
            case "map" -> x.map(a[0], a[1], a[2], a[3] == 1);
            case "unmap" -> x.unmap(a[0], a[1], a[2]);
            case "protect" -> x.protect(a[0], a[1], a[2]);
            case "move" -> x.move(a[0], a[1]);
            case "step" -> x.step(a[0]);
            case "run" -> x.run(a[0], a[1]);
            case "result" -> x.result(a[0], a[1]);
            case "current" -> x.current(a[0]);
            case "phase" -> x.phase(a[0]);
            case "queued" -> x.queued(a[0], a[1]);
            case "mail" -> x.mail(a[0]);
            case "table" -> x.table(a[0]);
            case "translation" -> x.translation(a[0], a[1]);
            case "word" -> x.word(a[0]);
            case "spare" -> x.spare(a[0]);
            case "tickets" -> x.tickets();
            case "steps" -> x.steps();
            default -> throw new IllegalStateException(method);
        };
    }

    int of(Model m) {
        int[] a = arguments;
        return switch (method) {
            case "thread" -> m.thread(a[0]);
            case "load" -> m.order(Model.Kind.LOAD, a[0], a[1], 1, 0, false, 0);
            case "store" -> m.order(Model.Kind.STORE, a[0], a[1], 1, a[2], false, 0);
            case "map" -> m.order(Model.Kind.MAP, a[0], a[1], a[2], 0, a[3] == 1, 0);
            case "unmap" -> m.order(Model.Kind.UNMAP, a[0], a[1], a[2], 0, false, 0);
            case "protect" -> m.order(Model.Kind.PROTECT, a[0], a[1], a[2], 0, false, 0);
            case "move" -> m.order(Model.Kind.MOVE, a[0], 0, 1, 0, false, a[1]);
            case "step" -> m.step(a[0]);
            case "run" -> m.run(a[0], a[1]);
            case "result" -> m.result(a[0], a[1]);
            case "current" -> m.current(a[0]);
            case "phase" -> m.phase(a[0]);
            case "queued" -> m.queued(a[0], a[1]);
            case "mail" -> m.mail(a[0]);
            case "table" -> m.table(a[0]);
            case "translation" -> m.translation(a[0], a[1]);
            case "word" -> m.word(a[0]);
            case "spare" -> m.spare(a[0]);
            case "tickets" -> m.tickets();
            case "steps" -> m.steps();
            default -> throw new IllegalStateException(method);
        };
    }

    @Override
    public String toString() {
        String listed = Arrays.stream(arguments).mapToObj(Integer::toString).collect(Collectors.joining(", "));
        return method + "(" + listed + ")";
    }
}
