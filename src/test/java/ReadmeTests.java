import java.io.IOException;
import java.nio.file.Files;
import java.nio.file.Path;
import java.util.List;
import java.util.regex.Matcher;
import java.util.regex.Pattern;

/** What README.md tells of the class: its example is read from it and called, and so is each refused answer. */
public final class ReadmeTests {
    private static final Pattern ROW = Pattern.compile("desk\\.(\\w+)\\(([^)]*)\\); +// (-?\\d+|true|false): .*");
    private static final int ROWS = 14;
    private static final int[] NO_POINTS = {Integer.MIN_VALUE, -1, 3, 119, 120, Integer.MAX_VALUE};

    private static int wrong = 0;

    private static void due(String call, String got, String want) {
        if (!got.equals(want)) {
            wrong++;
            System.out.println("README.md: " + call + " answered " + got + ", due is " + want);
        }
    }

    private static String answer(LoanDesk desk, String name, int... of) {
        switch (name) {
            case "point":
                return String.valueOf(desk.point(of[0], of[1], of[2], of[3]));
            case "next":
                return String.valueOf(desk.next(of[0], of[1], of[2]));
            case "isReached":
                return String.valueOf(desk.isReached(of[0]));
            case "holders":
                return String.valueOf(desk.holders(of[0], of[1]));
            case "used":
                return String.valueOf(desk.used(of[0]));
            case "isAlive":
                return String.valueOf(desk.isAlive(of[0], of[1]));
            case "met":
                return String.valueOf(desk.met(of[0], of[1]));
            case "count":
                return String.valueOf(desk.count(of[0]));
            case "clear":
                return String.valueOf(desk.clear());
            default:
                return "no such call";
        }
    }

    private static int[] numbers(String text) {
        if (text.isBlank()) {
            return new int[0];
        }
        String[] parts = text.split(",");
        int[] numbers = new int[parts.length];
        for (int i = 0; i < parts.length; i++) {
            numbers[i] = Integer.parseInt(parts[i].trim());
        }
        return numbers;
    }

    private static void exampleAnswersAsItSays() throws IOException {
        List<String> lines = Files.readAllLines(Path.of("README.md"));
        LoanDesk desk = new LoanDesk();
        int rows = 0;
        for (String line : lines) {
            Matcher row = ROW.matcher(line);
            if (row.matches()) {
                rows++;
                String call = row.group(1) + "(" + row.group(2) + ")";
                due(call, answer(desk, row.group(1), numbers(row.group(2))), row.group(3));
            }
        }
        due("how many rows the example has", String.valueOf(rows), String.valueOf(ROWS));
    }

    /** Point 0 borrows, point 1 meets the loan, point 2 uses it. */
    private static LoanDesk threePoints() {
        LoanDesk desk = new LoanDesk();
        desk.point(1, 0, 12, 1);
        desk.point(5, 0, 1, 0);
        desk.point(4, 0, 0, 0);
        return desk;
    }

    private static void refused(String want, String name, int... of) {
        LoanDesk desk = threePoints();
        StringBuilder call = new StringBuilder(name);
        for (int number : of) {
            call.append(' ').append(number);
        }
        due(call.toString(), answer(desk, name, of), want);
        due("count 0 behind " + call, answer(desk, "count", 0), "3");
        due("count 1 behind " + call, answer(desk, "count", 1), "3");
        due("met 1 -1 behind " + call, answer(desk, "met", 1, -1), "0");
        due("holders 2 0 behind " + call, answer(desk, "holders", 2, 0), "1");
    }

    private static void refusedCallsAnswerAsItSays() {
        refused("-1", "point", -1, 0, 1, 0);
        refused("-1", "point", 7, 0, 1, 0);
        refused("-1", "point", 1, 16, 1, 0);
        refused("-1", "point", 1, 0, 10, 0);
        refused("-1", "point", 1, 0, 1, 2);
        refused("-1", "point", 2, 0, 16, 0);
        refused("-1", "point", 3, -1, 0, 0);
        refused("-1", "point", 4, 16, 0, 0);
        refused("-1", "point", 5, 0, 0, 0);
        refused("-1", "point", 6, 0, 11111, 0);
        refused("false", "next", 0, -2, 1);
        refused("false", "next", 0, 1, 120);
        for (int point : NO_POINTS) {
            refused("false", "next", point, 0, 0);
            refused("false", "isReached", point);
            refused("0", "holders", point, 0);
            refused("0", "holders", 2, point);
            refused("0", "used", point);
            refused("false", "isAlive", point, 0);
            refused("false", "isAlive", 1, point);
            refused("-1", "met", point, -1);
        }
        // Point 1 is there, but no loan.
        refused("0", "holders", 2, 1);
        refused("false", "isAlive", 1, 1);
        refused("-1", "met", 1, 0);
        refused("-1", "met", 0, -1);
        refused("-1", "count", -1);
        refused("-1", "count", 5);
    }

    private static void fullAnswersAsItSays() {
        LoanDesk desk = new LoanDesk();
        due("count(3) of no points", answer(desk, "count", 3), "-1");
        for (int point = 0; point < 120; point++) {
            due("point " + point, answer(desk, "point", 0, point, -point, 7), String.valueOf(point));
        }
        due("the point above 119", answer(desk, "point", 0, 0, 0, 0), "-1");
        due("count(0) of a full object", answer(desk, "count", 0), "120");
        due("clear() of a full object", answer(desk, "clear"), "120");
        due("the first point behind clear()", answer(desk, "point", 0, 0, 0, 0), "0");
    }

    private static void loopTellsAllLoansThatAPointMeets() {
        LoanDesk desk = new LoanDesk();
        desk.point(1, 0, 1, 0);
        desk.point(1, 1, 2, 0);
        desk.point(1, 2, 12, 0);
        desk.point(6, 0, 1, 0);
        desk.point(4, 0, 0, 0);
        desk.point(4, 1, 0, 0);
        desk.point(4, 2, 0, 0);
        StringBuilder loans = new StringBuilder();
        int rounds = 0;
        for (int loan = desk.met(3, -1); loan != -1 && rounds < 120; loan = desk.met(3, loan)) {
            loans.append(loan).append(' ');
            rounds++;
        }
        due("the loop over met", loans.toString(), "0 2 ");
    }

    public static void main(String[] args) throws IOException {
        exampleAnswersAsItSays();
        refusedCallsAnswerAsItSays();
        fullAnswersAsItSays();
        loopTellsAllLoansThatAPointMeets();
        System.out.println(wrong == 0 ? "README.md tells the truth" : wrong + " answers are not as README.md says");
        if (wrong != 0) {
            System.exit(1);
        }
    }
}
