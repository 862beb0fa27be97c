import java.io.IOException;
import java.nio.file.Files;
import java.nio.file.Path;
import java.util.List;
import java.util.stream.Collectors;

/** The example of README.md, line for line: it says what the class answers. */
public final class ReadmeTest extends Dues {
    private static List<String> lines;
    private static int line;

    private static List<String> example() throws IOException {
        List<String> all = Files.readAllLines(Path.of("README.md"));
        int from = all.indexOf("```java") + 1;
        int to = from + all.subList(from, all.size()).indexOf("```");
        return all.subList(from, to).stream().filter(s -> !s.isBlank()).collect(Collectors.toList());
    }

    /** The next line has that call, and the first word of its comment, if it is one, is the answer. */
    private static void said(String call, Object answer) {
        String whole = line < lines.size() ? lines.get(line) : "";
        line++;
        String[] parts = whole.split(";", 2);
        dueText("line " + line + " of the example", call, parts[0]);
        String comment = parts.length > 1 ? parts[1].replaceFirst(" *// *", "") : "";
        if (comment.matches("(-?\\d|true|false).*")) {
            dueText(call, comment.split("[ :]")[0], "" + answer);
        }
    }

    private static void all() {
        ShapeTrees trees = new ShapeTrees(2);
        said("ShapeTrees trees = new ShapeTrees(2)", trees);
        int unit = trees.cell();
        said("int unit = trees.cell()", unit);
        int triangle = trees.polygon(unit, 0);
        said("int triangle = trees.polygon(unit, 0)", triangle);
        said("trees.corner(triangle, 0, 0)", trees.corner(triangle, 0, 0));
        said("trees.corner(triangle, 4, 0)", trees.corner(triangle, 4, 0));
        said("trees.corner(triangle, 0, 3)", trees.corner(triangle, 0, 3));
        int wire = trees.path(unit, 1, 2, 1);
        said("int wire = trees.path(unit, 1, 2, 1)", wire);
        said("trees.point(wire, 0, 0)", trees.point(wire, 0, 0));
        said("trees.point(wire, 6, 0)", trees.point(wire, 6, 0));
        int row = trees.cell();
        said("int row = trees.cell()", row);
        int place = trees.place(row, unit, 100, 0, 1);
        said("int place = trees.place(row, unit, 100, 0, 1)", place);
        said("trees.array(place, 5, 1, 10, 0)", trees.array(place, 5, 1, 10, 0));
        said("trees.box(row, 0, 2)", trees.box(row, 0, 2));
        said("trees.box(row, 1, 3)", trees.box(row, 1, 3));
        said("trees.flat(row, 0)", trees.flat(row, 0));
        said("trees.at(4, 1, 1)", trees.at(4, 1, 1));
        said("trees.find(row, 0, 0, 105, 9)", trees.find(row, 0, 0, 105, 9));
        said("trees.equalTo(row)", trees.equalTo(row));
        said("trees.drop(wire)", trees.drop(wire));
        said("trees.find(row, 0, 0, 105, 9)", trees.find(row, 0, 0, 105, 9));
        dueText("the example's lines", "" + line, "" + lines.size());
    }

    public static void main(String[] args) throws IOException {
        Watch.start();
        lines = example();
        test("README.md", ReadmeTest::all);
        end();
    }
}
