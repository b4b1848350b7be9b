import java.io.IOException;
import java.nio.file.Files;
import java.nio.file.Path;
import java.util.ArrayList;
import java.util.List;

/** The example of README.md: each of its lines stands here too, and answers what README.md says behind it. */
public final class ReadmeTest {
    private static final List<String> shown = new ArrayList<>();
    private static final List<String> tried = new ArrayList<>();

    public static void main(String[] args) throws IOException {
        read();
        joining();
        badges();
        events();
        boxesAndSeasons();
        Check.due("the lines of the example, in their order", String.join("\n", shown), String.join("\n", tried));
        Check.finish("ReadmeTest");
    }

    private static void read() throws IOException {
        boolean isCode = false;
        for (String line : Files.readAllLines(Path.of("README.md"))) {
            if (line.startsWith("```")) {
                isCode = line.equals("```java");
            } else if (isCode && !line.isBlank()) {
                shown.add(line.replaceAll(" {2,}//", " //"));
            }
        }
    }

    private static void line(String text) {
        tried.add(text);
    }

    private static void line(String call, Object got, String words) {
        tried.add(call + " // " + got + words);
    }

    private static final Badgewood x = new Badgewood();
    private static int troop;
    private static int child;
    private static int leader;

    private static void joining() {
        line("Badgewood x = new Badgewood();");
        troop = x.troop(6, 10, 12);
        line("int troop = x.troop(6, 10, 12); // for ages 6 to 10, with room for 12");
        child = x.child(8);
        line("int child = x.child(8);");
        line("x.join(child, troop);", x.join(child, troop), ": it is in");
        line("x.ofChild(child, 3);", x.ofChild(child, 3), ": its patrol");
    }

    private static void badges() {
        leader = x.leader();
        line("int leader = x.leader();");
        x.vet(leader, 0, 0, 9999);
        line("x.vet(leader, 0, 0, 9999); // vetted for land 0 on all days");
        x.teach(leader, 0b11);
        line("x.teach(leader, 0b11); // teaches the skills 0 and 1");
        x.edition(3, 0b11, 0, 0, Badgewood.NONE, 0, 30);
        line("x.edition(3, 0b11, 0, 0, Badgewood.NONE, 0, 30); // badge 3 asks for both, and lasts 30 days");
        x.begin(child, 3);
        line("x.begin(child, 3);");
        x.prove(child, 0, leader);
        line("x.prove(child, 0, leader);");
        line("x.lacks(child, 3);", x.lacks(child, 3), ": a set, of skill 1 alone");
        line("x.pass(2);", x.pass(2), ": today");
        line("x.prove(child, 1, leader);", x.prove(child, 1, leader), ": one badge is earned by now");
        line("x.earned(child, 3);", x.earned(child, 3), ": on the day 2");
        line("x.holds(child, 3);", x.holds(child, 3), ", up to the day 31");
    }

    private static void events() {
        int event = x.event(troop, 0, Badgewood.HALL, 5, 9, 2);
        line("int event = x.event(troop, 0, Badgewood.HALL, 5, 9, 2); // on the day 5, from 9 on for 2 hours");
        x.staff(event, leader, true);
        line("x.staff(event, leader, true);");
        line("x.why(event);", x.why(event), ", which is ALONE: one leader, one child");
        line("x.couldStaff(5, 10, 0b1);", x.couldStaff(5, 10, 0b1), ": one leader more is needed");
    }

    private static void boxesAndSeasons() {
        line("x.boxes(child, 3);", x.boxes(child, 3), ": the coins that it owes then");
        line("x.pay(child, 5);", x.pay(child, 5), "");
        line("x.season();", x.season(), ": it is 9 now, nobody leaves");
        Check.refuses("as README.md says", Check.STATE, () -> x.join(child, troop));
        line("x.join(child, troop); // throws IllegalStateException, and changes nothing: it is in a troop");
    }
}
