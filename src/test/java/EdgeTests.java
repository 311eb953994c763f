import java.nio.file.Files;
import java.nio.file.Path;

/** Sentence by sentence of the document: the edges that it names, and calls that are refused. */
public final class EdgeTests {
    private EdgeTests() {
    }

    public static void main(String[] args) throws Exception {
        Check c = new Check("EdgeTests");
        Sentences document = new Sentences(c, Files.readString(Path.of(args[1])));
        Edges[] parts = {new EdgesOfKinds(c, document), new EdgesOfLines(c, document), new EdgesOfSets(c, document),
            new EdgesOfWhatFollows(c, document), new EdgesOfMachine(c, document), new EdgesOfHost(c, document)};
        for (Edges part : parts) {
            part.all();
        }
        document.allTold();
        c.end();
    }
}
