import java.util.function.Predicate;
import java.util.function.Supplier;
import java.util.function.ToLongFunction;

/**
 * 'What is refused answers as told and changes nothing.': the yard called so must then answer all
 * that can be asked as one made alike that was never called so.
 */
final class Refusals {
    private final Due due;

    Refusals(Due due) {
        this.due = due;
    }

    void is(String call, Supplier<DrumYard> made, ToLongFunction<DrumYard> refused, long want) {
        DrumYard called = made.get();
        due.is(call, refused.applyAsLong(called), want);
        due.alike(call + " 'changes nothing'", Sight.of(called), Sight.of(made.get()));
    }

    void no(String call, Supplier<DrumYard> made, Predicate<DrumYard> refused) {
        is(call, made, yard -> refused.test(yard) ? 1 : 0, 0);
    }
}
