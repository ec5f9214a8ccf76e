import java.util.function.ToLongFunction;

/** One call with its arguments, to be made of any object; a boolean answer counts 1 or 0. */
record Call(String text, long refusal, ToLongFunction<ActChains> how) {
    long of(ActChains x) {
        return how.applyAsLong(x);
    }
}
