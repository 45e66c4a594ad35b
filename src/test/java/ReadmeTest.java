import java.io.IOException;
import java.nio.file.Files;
import java.nio.file.Path;

/** The calls that README.md shows stand there with the answers that the program gives. */
public final class ReadmeTest {
    private static final Check CHECK = new Check();

    public static void main(String[] args) throws IOException {
        CHECK.topic("README.md");
        String readme = Files.readString(Path.of("README.md"));
        StringRates office = new StringRates();
        shows(readme, "bring(30, 20, 10, 5, 0)", office.bring(30, 20, 10, 5, 0));
        shows(readme, "bring(12, 9, 4, 20, 0)", office.bring(12, 9, 4, 20, 0));
        shows(readme, "parcelOf(0, 8)", office.parcelOf(0, 8));
        shows(readme, "change(0, 0, 1)", office.change(0, 0, 1));
        shows(readme, "parcelOf(0, 9)", office.parcelOf(0, 9));
        shows(readme, "cheapestWay(0)", office.cheapestWay(0));
        shows(readme, "ifBundled(0, 1)", office.ifBundled(0, 1));
        shows(readme, "cheapest(0)", office.cheapest(0));
        shows(readme, "dispute(0, 155)", office.dispute(0, 155));
        shows(readme, "count(3)", office.count(3));
        shows(readme, "undo()", office.undo());
        shows(readme, "send(0)", office.send(0));
        CHECK.refuses("parcelOf(1, 0)", IndexOutOfBoundsException.class, () -> office.parcelOf(1, 0));
        text();
        CHECK.end();
    }

    private static void shows(String readme, String call, int answer) {
        for (String line : readme.split("\n")) {
            if (line.startsWith("office." + call + ";") && line.matches(".*// " + answer + "(: .*)?")) {
                return;
            }
        }
        CHECK.tell(call + " answers " + answer + ", which does not stand there");
    }

    private static void text() {
        StringRates office = new StringRates();
        Offices.write(office, "12x9x4*20z1c;8x8x8*3z1r");
        CHECK.due("run of the text", office.run(), 2);
    }
}
