/** Compares answers with those that are due, prints the wrong ones, and ends the program by them. */
final class Check {
    private final String name;
    private String sentence = "";
    private int wrong = 0;
    private int calls = 0;

    Check(String name) {
        this.name = name;
    }

    /** The sentence of the document that the answers to come are about. */
    void sentence(String words) {
        sentence = "<" + words + "> ";
    }

    void due(String call, int got, int want) {
        calls++;
        if (got != want) {
            wrong++;
            System.out.println(name + ": " + sentence + call + " answered " + got + ", due is " + want);
        }
    }

    void none(String call, int got) {
        due(call, got, DayTown.NONE);
    }

    /** The call that answered was refused, and left the town with as many of each as ahead. */
    void refused(String call, int got, DayTown town, int persons, int facts) {
        none(call, got);
        due("persons behind " + call, town.count(0), persons);
        due("facts behind " + call, town.count(1), facts);
    }

    void end() {
        System.out.println(name + ": " + calls + " answers, " + wrong + " wrong");
        if (wrong != 0) {
            System.exit(1);
        }
    }

    /** Twenty bytes at a time, then back what the text does not have: how many the tape has. */
    static int feedText(DayTown town, String text) {
        int length = town.count(4);
        for (int at = 0; at < text.length(); at += 20) {
            length = town.feed(four(text, at), four(text, at + 4), four(text, at + 8),
                    four(text, at + 12), four(text, at + 16));
        }
        int over = (20 - text.length() % 20) % 20;
        return over == 0 ? length : town.back(over);
    }

    static int readText(DayTown town, String text) {
        feedText(town, text);
        return town.read();
    }

    /** A town with some persons who have lived no day. */
    static DayTown townOf(int persons) {
        DayTown town = new DayTown();
        for (int i = 0; i < persons; i++) {
            town.person(0);
        }
        return town;
    }

    private static int four(String text, int from) {
        int four = 0;
        for (int at = from; at < from + 4; at++) {
            four = four << 8 | (at < text.length() ? text.charAt(at) & 255 : ' ');
        }
        return four;
    }
}
