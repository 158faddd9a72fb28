import java.io.IOException;
import java.nio.file.Files;
import java.nio.file.Path;

/** The example of README.md: that it stands there as it is run here, and answers what it says. */
final class ReadmeTest {
    private static final Check CHECK = new Check();
    private static final String[] EXAMPLE = {
        "UserCore core = new UserCore();",
        "core.poke(0, 4, 0x00500093L);   // x1 = x0 + 5",
        "core.poke(4, 4, 115L);          // a call: trap 8",
        "int steps = core.run(100);      // 1",
        "core.register(1);               // 5",
        "core.trap();                    // 8",
        "core.value();                   // 0",
        "core.pc();                      // 4, the word that trapped",
        "core.jump(core.pc() + 4);       // behind it, where the next run goes on"};

    public static void main(String[] args) throws IOException {
        String readme = Files.readString(Path.of("README.md"));
        CHECK.due("README.md has the example", readme.contains(String.join("\n", EXAMPLE)), true);
        UserCore core = new UserCore();
        core.poke(0, 4, 0x00500093L);
        core.poke(4, 4, 115L);
        CHECK.due("run(100)", core.run(100), 1);
        CHECK.due("register(1)", core.register(1), 5);
        CHECK.due("trap()", core.trap(), 8);
        CHECK.due("value()", core.value(), 0);
        CHECK.due("pc()", core.pc(), 4);
        core.jump(core.pc() + 4);
        CHECK.due("pc() behind jump", core.pc(), 8);
        CHECK.end();
    }
}
