import java.util.ArrayList;
import java.util.List;
import java.util.function.Consumer;
import java.util.function.ToIntFunction;

/**
 * Plays a run of calls on an object; before its 513th call (what that one answers is free) the run is played again
 * on a new object, without the looks between.
 */
final class Player {
    private static final int LIFE = 512;
    /** What the longest run leaves for looks. */
    private static final int ROOM = 220;

    private final List<Consumer<RingFreeOrder>> played = new ArrayList<>();
    private int playedCalls = 0;
    private RingFreeOrder object = new RingFreeOrder();
    private int calls = 0;

    /** Whether the run has room for some calls more. */
    boolean hasRoom(int more) {
        return playedCalls + more <= LIFE - ROOM;
    }

    /** The object, for a look that takes no more than some calls. */
    RingFreeOrder look(int most) {
        if (calls + most > LIFE) {
            object = new RingFreeOrder();
            for (Consumer<RingFreeOrder> call : played) {
                call.accept(object);
            }
            calls = playedCalls;
        }
        calls += most;
        return object;
    }

    /** Plays something of some calls, which belongs to the run from then on. */
    void play(int some, Consumer<RingFreeOrder> call) {
        call.accept(look(some));
        played.add(call);
        playedCalls += some;
    }

    /** Plays one call and returns its answer. */
    int answer(ToIntFunction<RingFreeOrder> call) {
        int[] answer = new int[1];
        play(1, x -> answer[0] = call.applyAsInt(x));
        return answer[0];
    }

    /** Puts a text into the input buffer, as part of the run. */
    void give(String text) {
        play(giving(text), x -> Check.give(x, text));
    }

    /** How many calls it takes to give a text. */
    static int giving(String text) {
        return 2 + (text.length() + 19) / 20;
    }
}
