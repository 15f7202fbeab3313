/** Calls that an office made like a scene refuses: each throws what is due, and a twin that was never asked shows the same picture. */
final class Refusals {
    interface Call {
        void on(ChitWright x);
    }

    private final Scene scene;
    private final String picture;

    Refusals(Scene scene) {
        this.scene = scene;
        picture = Picture.of(scene);
    }

    Refusals number(String what, Call call) {
        return refuses(what, Check.NUMBER, call);
    }

    Refusals range(String what, Call call) {
        return refuses(what, Check.RANGE, call);
    }

    Refusals state(String what, Call call) {
        return refuses(what, Check.STATE, call);
    }

    Refusals refuses(String what, Class<?> want, Call call) {
        ChitWright x = scene.make();
        Check.refuses(what, want, () -> call.on(x));
        Check.due(what + ", and changed something:", picture, Picture.of(() -> refused(call)));
        return this;
    }

    private ChitWright refused(Call call) {
        ChitWright x = scene.make();
        Check.thrownBy(() -> call.on(x));
        return x;
    }

    /** A neighbour of a refused call that is not refused. */
    Refusals takes(String what, Call call) {
        ChitWright x = scene.make();
        Check.refuses(what, null, () -> call.on(x));
        return this;
    }
}
