/** The four examples of the document. */
public final class ExamplesTest {
    public static void main(String[] args) {
        Script.run("example 1",
            "call(0, false) = 0; tick(2) = 1; end(1, 0, 0) = 2; accept(1, 0) = 0;",
            "tick(2) = 1; callValue(0, 3) = 1; answer(1, 0) = 0; tick(2) = 1; count(1) = 1; release(0, 0) = 0;",
            "tick(4) = 2; count(0) = 4; callValue(0, 4) = 0; total(0) = 5");
        Script.run("example 2",
            "setCircuits(1) = 4; call(0, false) = 0; call(1, false) = 1; tick(2) = 2; total(2) = 2;",
            "end(0, 0, 0) = 1; end(1, 0, 0) = 2; end(1, 0, 1) = 0; callValue(1, 3) = 4; callValue(1, 4) = 2");
        Script.run("example 3",
            "setFaulty(0, true) = false; call(0, true) = 0; end(0, 0, 2) = 3; tick(3) = 1; callValue(0, 1) = 2;",
            "callValue(0, 2) = 2; tick(2) = 2; end(1, 0, 0) = 0; accept(1, 2) = throws IllegalStateException;",
            "tick(1) = 0; end(0, 2, 2) = 29");
        Script.run("example 4",
            "loseNext(0, 100) = 0; call(0, false) = 0; tick(30) = 0; end(0, 0, 0) = 6; callValue(0, 4) = 1;",
            "tick(30) = 0; end(0, 0, 0) = 7; release(0, 0) = throws IllegalStateException;",
            "accept(1, 0) = throws IllegalStateException");
        Script.finish();
    }
}
