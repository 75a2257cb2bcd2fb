import java.io.IOException;
import java.nio.file.Files;
import java.nio.file.Path;
import java.util.ArrayList;
import java.util.List;

/** The README's example compiles, and answers what its comments say. */
final class ReadmeTest {
    private static final Check CHECK = new Check("ReadmeTest");
    private static final Path README = Path.of("README.md");
    private static final Path THIS = Path.of("src/test/java/ReadmeTest.java");

    public static void main(String[] args) throws IOException {
        example();
        exampleIsTheReadmes();
        eachCallIsNamed();
        eachTestIsNamed();
        CHECK.end();
    }

    private static void example() {
        BootsAtDawn boots = new BootsAtDawn();    // the document's own slate is laid
        boots.wipe();
        for (char letter : "g0,1;g1,4;b1,0;s5;".toCharArray()) {
            boots.write(letter);                  // how long the text is
        }
        int fault = boots.fault();                // NONE: the text can be laid
        int guests = boots.lay();                 // 2 guests are here
        int rounds = boots.good(0);               // 1 round keeps the slate
        int first = boots.soonest(1);             // it wakes guest 1 first
        int end = boots.soonest(0);               // it ends at 16
        int struck = boots.strike(0, true);       // 1 wish is struck out
        int more = boots.good(0);                 // 2 rounds keep what stands
        int undoable = boots.undo();              // the wish stands again; 0 more changes can be undone
        int refused = boots.move(2, 0);           // BAD: there is no guest 2
        CHECK.due("fault", fault, Hotel.NONE);
        CHECK.due("guests", guests, 2);
        CHECK.due("rounds", rounds, 1);
        CHECK.due("first", first, 1);
        CHECK.due("end", end, 16);
        CHECK.due("struck", struck, 1);
        CHECK.due("more", more, 2);
        CHECK.due("undoable", undoable, 0);
        CHECK.due("refused", refused, Hotel.BAD);
    }

    private static void exampleIsTheReadmes() throws IOException {
        List<String> readme = Files.readAllLines(README);
        int begin = readme.indexOf("```java") + 1;
        CHECK.holds("an example stands in README.md", begin > 0);
        List<String> example = new ArrayList<>();
        for (int i = begin; !readme.get(i).equals("```"); i++) {
            example.add("        " + readme.get(i));
        }
        CHECK.holds("it has calls", example.size() > 5);
        CHECK.holds("it stands in this test to the letter", Files.readString(THIS).contains(String.join("\n", example)));
    }

    private static void eachCallIsNamed() throws IOException {
        String readme = Files.readString(README);
        for (var method : BootsAtDawn.class.getMethods()) {
            boolean ofTheFace = method.getDeclaringClass() == BootsAtDawn.class;
            CHECK.holds("README.md names " + method, !ofTheFace || readme.contains("`" + method.getName() + "`"));
        }
    }

    private static void eachTestIsNamed() throws IOException {
        String readme = Files.readString(README).replace("`Terms1Test` to `Terms4Test`", "`Terms1Test` `Terms2Test` `Terms3Test` `Terms4Test`");
        try (var tests = Files.newDirectoryStream(THIS.getParent(), "*Test.java")) {
            for (Path test : tests) {
                String name = test.getFileName().toString().replace(".java", "");
                CHECK.holds("README.md names " + name, readme.contains("`" + name + "`"));
            }
        }
    }
}
