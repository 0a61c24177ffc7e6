import java.io.IOException;
import java.nio.file.Files;
import java.nio.file.Path;

/** All sentences of the document (the second argument): those that name a boundary case have a test of their own. */
public final class SentencesTest {
    public static void main(String[] args) throws IOException {
        Due due = new Due("SentencesTest");
        Sentences all = new Sentences();
        BoneSentences.tell(all);
        GoalSentences.tell(all);
        ClipSentences.tell(all);
        GraphSentences.tell(all);
        SheetSentences.tell(all);
        if (args.length > 1) {
            all.compareWith(due, Files.readString(Path.of(args[1])));
        }
        all.ask(due);
        System.out.println("SentencesTest: " + all.tested() + " sentences name a boundary case");
        due.end();
    }
}
