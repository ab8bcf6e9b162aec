import java.io.IOException;
import java.nio.file.Path;
import java.util.List;

/** Every sentence of the document, its edges in a case of its own; and no sentence is left out. */
public final class BoundariesTest {
    public static void main(String[] args) throws IOException {
        Document document = new Document(Path.of("../shared/DOC.md"));
        List<Case> cases = Case.all();
        for (Case one : cases) {
            Due.due("the document says '" + one.name() + "'", document.says(one.part, one.words), true);
            Check check = one.run();
            Due.due("answers asked for in '" + one.name() + "'", check.asked > 0, true);
            Due.add(check.asked, check.wrong.stream().map(wrong -> one.name() + ": " + wrong).toList());
        }
        int parts = 0;
        for (String part : document.parts()) {
            parts++;
            String unseen = document.unseen(part);
            Due.due("words without a case in " + part + ": '" + unseen + "'", unseen.isEmpty(), true);
        }
        Due.due("what it is, three parts of terms, what stands below them, and 19 promises", parts, 24);
        System.out.println(cases.size() + " cases");
        Due.finish("BoundariesTest");
    }
}
