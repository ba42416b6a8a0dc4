import java.io.IOException;
import java.nio.charset.StandardCharsets;
import java.nio.file.Files;
import java.nio.file.Path;

/** The example of README.md: its lines stand there as they are here, and answer what they say. */
public final class ReadmeTest {
    private static final Check CHECK = new Check("ReadmeTest");

    public static void main(String[] args) throws IOException {
        HotThrough x = new HotThrough();
        CHECK.due("sign", x.sign(0x623b743b), 4);
        CHECK.due("sign", x.sign(0x77616232), 8);
        CHECK.due("sign", x.sign(0x3b703230), 12);
        CHECK.due("sign", x.sign(0x302d3540), 16);
        CHECK.due("sign", x.sign(0x613b6836), 20);
        CHECK.due("sign", x.sign(0x30406100), 24);
        CHECK.due("end", x.end(23), true);
        CHECK.due("kitchen", x.kitchen(), 5);
        CHECK.due("fold", x.fold(0, 4), 0);
        CHECK.due("take", x.take(0, 0), 200);
        CHECK.due("lasts", x.lasts(0), 19);
        CHECK.row("lasts", x, 110);
        CHECK.due("walk", x.walk(0, 0), 2);
        CHECK.row("walk", x, 0, 8);
        CHECK.due("down", x.down(0), 0);

        String readme = Files.readString(Path.of("README.md"), StandardCharsets.UTF_8);
        String[] calls = {"x.sign(0x623b743b);", "x.sign(0x77616232);", "x.sign(0x3b703230);", "x.sign(0x302d3540);",
            "x.sign(0x613b6836);", "x.sign(0x30406100);", "x.end(23);", "x.kitchen();", "x.fold(0, 4);", "x.take(0, 0);",
            "x.lasts(0);", "x.walk(0, 0);", "x.down(0);"};
        int behind = 0;
        for (String call : calls) {
            int at = readme.indexOf(call, behind);
            CHECK.due("README.md has, in turn, " + call, at >= behind, true);
            behind = Math.max(behind, at);
        }
        for (Path test : Files.newDirectoryStream(Path.of("src/test/java"), "*Test.java")) {
            String name = test.getFileName().toString().replace(".java", "");
            CHECK.due("README.md tells of " + name, readme.contains("`" + name + "`"), true);
        }
        CHECK.due("README.md tells how to run the tests", readme.contains("bash .ci/run"), true);
        CHECK.finish();
    }
}
