import java.io.IOException;
import java.lang.reflect.Method;
import java.lang.reflect.Modifier;
import java.nio.file.Files;
import java.nio.file.Path;
import java.util.List;

/** README.md: its lines of Java stand below, and answer what it says; every public call is named there. */
final class ReadmeTest {
    private static final Due DUE = new Due("ReadmeTest");

    public static void main(String[] args) throws IOException {
        RightsHouse house = new RightsHouse();
        int anna = house.person();
        int readers = house.group();
        int paper = house.thing(0, RightsHouse.NONE);
        house.put(anna, readers, 0, 100);

        // "yes g0 r any": eight bytes and four
        house.feed(8, 0x7965732067302072L);
        house.feed(4, 0x20616e79L);
        int policy = house.policy(0);
        house.inForce(policy);
        int answer = house.ask(anna, 0, paper);   // 1: yes
        int rule = house.made(0);                 // 0: by the first rule

        DUE.is("the policy", policy, 0);
        DUE.is("the answer", answer, 1);
        DUE.is("the rule", rule, 0);
        linesStandHere();
        callsAreNamed();
        DUE.end();
    }

    private static void linesStandHere() throws IOException {
        List<String> here = Files.readAllLines(Path.of("src/test/java/ReadmeTest.java")).stream().map(String::trim).toList();
        boolean isJava = false;
        for (String line : Files.readAllLines(Path.of("README.md"))) {
            if (line.startsWith("```")) {
                isJava = line.equals("```java");
            } else if (isJava) {
                DUE.is("README.md: " + line, here.contains(line.trim()) ? 1 : 0, 1);
            }
        }
    }

    private static void callsAreNamed() throws IOException {
        String readme = Files.readString(Path.of("README.md"));
        String table = readme.substring(readme.indexOf("| part | calls |"), readme.indexOf("## Tests"));
        for (Method method : RightsHouse.class.getDeclaredMethods()) {
            if (Modifier.isPublic(method.getModifiers())) {
                DUE.is("README.md names " + method.getName(), table.contains("`" + method.getName() + "`") ? 1 : 0, 1);
            }
        }
    }
}
