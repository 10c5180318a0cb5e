/** A call that is refused: its answer, and that nothing has changed by it. */
final class Refused {
    private static final int LOOKS = 3;

    private Refused() {
    }

    static void hold(Edges e, String made, String call, int want) {
        RiverProof refused = Made.object(made, true);
        e.eq(made + ": " + call, want, Edges.call(refused, call));
        for (int look = 0; look < LOOKS; look++) {
            RiverProof changed = Made.object(made, true);
            Edges.call(changed, call);
            e.eq(made + ": behind " + call, Made.look(asItWas(made, call), look), Made.look(changed, look));
        }
    }

    /** text() uses THE TAPE up and check() the numbers that wait, whatever they answer; no other call does. */
    private static RiverProof asItWas(String made, String call) {
        RiverProof x = Made.object(made, !call.startsWith("check "));
        if (call.equals("text")) {
            x.trim(0);
        }
        return x;
    }
}
