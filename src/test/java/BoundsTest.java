import java.io.IOException;
import java.util.List;

/** Every boundary case that the document names, with its promise and its sentence. */
public final class BoundsTest {
    public static void main(String[] args) throws IOException {
        Sentences sentences = new Sentences();
        List<Bounds> groups = List.of(new TermBounds(sentences), new CueBounds(sentences), new StepBounds(sentences),
            new TrayStepBounds(sentences), new CueStepBounds(sentences), new KindBounds(sentences),
            new ListenerBounds(sentences), new TrayBounds(sentences), new SendBounds(sentences));
        for (Bounds group : groups) group.run();
        sentences.end();
    }
}
