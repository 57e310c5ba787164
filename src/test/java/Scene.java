/** A run of calls of a new object: the same each time, so that it can be played again whenever calls run short. */
interface Scene {
    void play(Counted x);

    default Scene then(Scene next) {
        return x -> {
            play(x);
            next.play(x);
        };
    }

    default Counted played() {
        Counted x = new Counted();
        play(x);
        return x;
    }
}
