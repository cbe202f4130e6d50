import java.io.IOException;
import java.nio.file.Files;
import java.nio.file.Path;
import java.util.Arrays;
import java.util.regex.Matcher;
import java.util.regex.Pattern;

/** The calls of the README's example answer what it says. */
public final class ReadmeTest {
    private static final Pattern CALL = Pattern.compile(
            "(?m)^desk\\.(\\w+)\\(([-0-9, ]*)\\); +// (-?\\d+)");

    public static void main(String[] args) throws IOException, ReflectiveOperationException {
        Expect expect = new Expect("readme");
        CarrierDesk desk = new CarrierDesk();
        Matcher call = CALL.matcher(Files.readString(Path.of("README.md")));
        int calls = 0;
        while (call.find()) {
            calls++;
            Object[] arguments = Arrays.stream(call.group(2).split(", "))
                    .filter(text -> !text.isEmpty()).map(Integer::valueOf).toArray();
            Class<?>[] types = new Class<?>[arguments.length];
            Arrays.fill(types, int.class);
            expect.look(call.group(), call.group(3), CarrierDesk.class
                    .getMethod(call.group(1), types).invoke(desk, arguments).toString());
        }
        expect.same("the calls of the example", 13, calls);
        expect.end();
    }
}
