import java.util.List;
import java.util.regex.Matcher;
import java.util.regex.Pattern;

/**
 * Texts of houses with one byte put in, left out or changed, and cut off at each place: the document's
 * grammar stands here as one regular expression, and a text's begin may still become a house
 * if that expression comes to the text's end.
 */
public final class FaultTest {
    private static final Pattern HOUSE = Pattern.compile(houses(), Pattern.DOTALL);
    private static final String BYTES = "takegldbrivcs 01349;!()&|<=>\u0000/:\u00ff";
    private static final String TWELVE = "give 1;".repeat(12);
    private static final List<String> WHOLE = List.of(
        "give 0",
        "give 12;give 345",
        "take 0 0 1;take 3 3 999",
        "glad 2 1 10;take 1 2 07;give 3",
        "bar a=1",
        "bar a<1&b>22|r=9;take 0 1 5",
        "bar !a=1&!(b=1|c>0)|d=0;glad 0 0 0",
        "bar ((((a=1))))|!!!!b=10",
        "bar (!(!r<3&d=3)|(b=1&(c=2)))&!!a>9",
        "bar !(a=1)|(b=2);bar r=0&(a=1|!b=1);bar d<3",
        TWELVE.substring(0, TWELVE.length() - 1),
        "give 1;".repeat(10) + "bar r=0;bar ((a=1))",
        "take 0 0 1;".repeat(8) + "take 0 1 123");
    private static int looked = 0;
    private static int wrong = 0;

    public static void main(String[] args) {
        for (String text : WHOLE) {
            if (!HOUSE.matcher(text).matches() || text.length() > 100) {
                wrong++;
                System.out.println("no house: " + text);
            }
            for (int at = 0; at <= text.length(); at++) {
                look(text.substring(0, at), at);
                for (int k = 0; k < BYTES.length(); k++) {
                    look(text.substring(0, at) + BYTES.charAt(k) + text.substring(at), at);
                    if (at < text.length()) {
                        look(text.substring(0, at) + BYTES.charAt(k) + text.substring(at + 1), at);
                    }
                }
                if (at < text.length()) {
                    look(text.substring(0, at) + text.substring(at + 1), at);
                }
            }
        }
        System.out.println(looked + " texts, " + wrong + " wrong");
        if (wrong > 0 || looked < 30000) {
            System.exit(1);
        }
    }

    private static String houses() {
        String test = "[abcdr][<=>][0-9]{1,2}";
        String single = test;
        for (int within = 0; within < 4; within++) {
            single = "(?:" + test + "|!" + single + "|\\(" + joined(single) + "\\))";
        }
        String clause = "(?:(?:take|glad) [0-3] [0-3] [0-9]{1,3}|give [0-9]{1,3}|bar " + joined(single) + ")";
        return clause + "(?:;" + clause + "){0,11}";
    }

    private static String joined(String single) {
        return single + "(?:[&|]" + single + ")*";
    }

    /** The answer that is due; all bytes ahead of a place are known to begin a house. */
    private static int due(String text, int from) {
        if (HOUSE.matcher(text).matches()) {
            return 0;
        }
        int right = from;
        while (right < text.length() && begins(text.substring(0, right + 1))) {
            right++;
        }
        return -10 - right;
    }

    private static boolean begins(String text) {
        Matcher m = HOUSE.matcher(text);
        return m.matches() || m.hitEnd();
    }

    private static void look(String text, int from) {
        if (text.length() > 100) {
            return;
        }
        looked++;
        CellarMeter x = new CellarMeter();
        for (int i = 0; i < text.length(); i++) {
            x.feed(text.charAt(i), 1);
        }
        int got = x.house();
        int due = due(text, from);
        if (got != due) {
            wrong++;
            System.out.println("house of '" + text + "' answered " + got + ", due is " + due);
        }
    }
}
