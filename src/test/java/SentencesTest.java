import java.nio.file.Files;
import java.nio.file.Path;

/** Every sentence of What it is, the Terms and the promises has a test of its own, by its own words. */
public final class SentencesTest {
    public static void main(String[] args) throws Exception {
        Sentences s = new Sentences(Files.readString(Path.of("../shared/DOC.md")));
        WhatItIsSentences.test(s);
        TermsSentences.test(s);
        TermsFlowSentences.test(s);
        TellingSentences.test(s);
        FlowSentences.test(s);
        DriverSentences.test(s);
        s.end("SentencesTest");
    }
}
