import java.io.IOException;

/** The document sentence by sentence: each has a test of its own, with the boundary cases that it names. */
public final class BoundariesTest {
    public static void main(String[] args) throws IOException {
        Check check = new Check();
        Sentences sentences = new Sentences(check);
        new VideoBoundaries(check).all(sentences);
        new SetupBoundaries(check).all(sentences);
        new CommandBoundaries(check).all(sentences);
        new MillisecondBoundaries(check).all(sentences);
        new PolicyBoundaries(check).all(sentences);
        new SessionBoundaries(check).all(sentences);
        new WhatIfBoundaries(check).all(sentences);
        new ErrorBoundaries(check).all(sentences);
        sentences.checkThatAllAreQuoted();
        check.end();
    }
}
