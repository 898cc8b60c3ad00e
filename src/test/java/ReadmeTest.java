import java.io.IOException;
import java.nio.file.Files;
import java.nio.file.Path;
import java.util.List;
import java.util.function.Function;

/** README.md has just these calls, in this order; its comments on the answers are copied here by hand. */
public final class ReadmeTest {
    private static final class Row {
        final String call;
        final Function<PostDrawer, Object> made;
        final Object due;

        Row(String call, Function<PostDrawer, Object> made, Object due) {
            this.call = call;
            this.made = made;
            this.due = due;
        }
    }

    private static final List<Row> ROWS = List.of(
        new Row("draw(3, 4)", x -> x.draw(3, 4), 5),
        new Row("part(0, 2)", x -> x.part(0, 2), 697),
        new Row("faultless(1)", x -> x.faultless(1), true),
        new Row("draw(2, 2)", x -> x.draw(2, 2), 3),
        new Row("verdict(7, true)", x -> x.verdict(7, true), 1),
        new Row("verdict(5, true)", x -> x.verdict(5, true), 2),
        new Row("shorter()", x -> x.shorter(), 2),
        new Row("left(1)", x -> x.left(1), 2),
        new Row("minimal()", x -> x.minimal(), true),
        new Row("draw(1, 0)", x -> x.draw(1, 0), 1),
        new Row("part(0, 1)", x -> x.part(0, 1), 17),
        new Row("point(0, 0, 0)", x -> x.point(0, 0, 0), 50),
        new Row("point(0, 5, 5)", x -> x.point(0, 5, 5), 212),
        new Row("point(0, 12, 0)", x -> x.point(0, 12, 0), PostDrawer.NONE),
        new Row("same(7, 1, 0)", x -> x.same(7, 1, 0), true),
        new Row("seed(8)", x -> x.seed(8), 7L),
        new Row("same(7, 1, 0)", x -> x.same(7, 1, 0), false),
        new Row("draw(1, 0)", x -> x.draw(1, 0), 1));

    public static void main(String[] args) throws IOException {
        List<String> written = Files.readAllLines(Path.of("README.md")).stream()
            .filter(line -> line.startsWith("post.")).toList();
        PostDrawer post = new PostDrawer(7);
        int wrong = written.size() == ROWS.size() ? 0 : 1;
        for (int i = 0; i < ROWS.size(); i++) {
            Row row = ROWS.get(i);
            Object answer = row.made.apply(post);
            if (!row.due.equals(answer)) {
                System.out.println(row.call + " answers " + answer + ", due is " + row.due);
                wrong++;
            }
            if (i >= written.size() || !written.get(i).startsWith("post." + row.call + ";")) {
                System.out.println("README.md has no row " + i + ": " + row.call);
                wrong++;
            }
        }
        if (wrong > 0) {
            System.out.println("README.md has " + written.size() + " calls, the test " + ROWS.size());
            System.exit(1);
        }
        System.out.println("README.md has the calls tested here, and they answer as due");
    }
}
