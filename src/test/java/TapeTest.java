/** Promises 1 to 5: a new object, the tape, and what read() and place() say of it. */
public final class TapeTest {
    private static final Check CHECK = new Check("TapeTest");

    public static void main(String[] args) {
        newObject();
        bytesInOrder();
        tapeIsFull();
        backward();
        readTakesTheTape();
        faultChangesNothing();
        CHECK.end();
    }

    private static void newObject() {
        DayTown town = new DayTown();
        CHECK.due("NONE", DayTown.NONE, -1);
        for (int what = 0; what < 5; what++) {
            CHECK.due("new count(" + what + ")", town.count(what), 0);
        }
        CHECK.due("new place()", town.place(), -1);
        CHECK.due("new holder", town.holder(0, 0, 0), -1);
        CHECK.due("new chain", town.chain(0, 0, 0, 0), -1);
        CHECK.due("new awake", town.awake(0, 0, 0), -1);
        CHECK.due("new age", town.age(0, 0, 0), -1);
        CHECK.due("new owes", town.owes(0, 1, 0, 0), -1);
        CHECK.due("new net", town.net(0, 0, 0), 0);
        CHECK.due("new ring", town.ring(0, 0, 0), -1);
        CHECK.due("new leaves", town.leaves(0, 0), 0);
        CHECK.due("new isVoid", town.isVoid(0, 0), -1);
        CHECK.due("new isVoid", town.isVoid(0, 1), -1);
        CHECK.due("new doer", town.doer(0, 0, 0), -1);
        CHECK.due("new turned", town.turned(0, 0), -1);
        CHECK.due("new loan", town.loan(0, 0, 0, 1, 1), -1);
        CHECK.due("new read()", town.read(), 0);
    }

    /** "grows 1;" with its ; as the very last byte. */
    private static void bytesInOrder() {
        DayTown town = new DayTown();
        CHECK.due("feed", town.feed(0x67726F77, 0x73203120, 0x20202020, 0x20202020, 0x2020203B), 20);
        CHECK.due("read()", town.read(), 0);
        CHECK.due("count(3)", town.count(3), 1);
        town.feed(0x67726F77, 0x73203120, 0x20202020, 0x20202020, 0x2020203B);
        CHECK.due("back(1)", town.back(1), 19);
        CHECK.due("read() without ;", town.read(), 1);
        CHECK.due("place()", town.place(), 19);
        town.feed(0x67726F77, 0xF3203120, 0x3B202020, 0x20202020, 0x20202020);
        CHECK.due("read() of a byte above 127", town.read(), 1);
        CHECK.due("place() of it", town.place(), 0);
        town.feed(-1, -1, -1, -1, -1);
        CHECK.due("read() of 255", town.read(), 1);
        CHECK.due("place() of 255", town.place(), 0);
    }

    private static void tapeIsFull() {
        DayTown town = new DayTown();
        for (int i = 1; i <= 100; i++) {
            CHECK.due("feed " + i, town.feed(0x20202020, 0x20202020, 0x20202020, 0x20202020, 0x20202020), 20 * i);
        }
        CHECK.due("feed 101", town.feed(0, 0, 0, 0, 0), -1);
        CHECK.due("count(4)", town.count(4), 2000);
        CHECK.due("back(19)", town.back(19), 1981);
        CHECK.due("feed to 2001", town.feed(0, 0, 0, 0, 0), -1);
        CHECK.due("count(4)", town.count(4), 1981);
        CHECK.due("back(1)", town.back(1), 1980);
        CHECK.due("feed to 2000", town.feed(0x20202020, 0x20202020, 0x20202020, 0x20202020, 0x20202062), 2000);
        CHECK.due("read() to the last byte", town.read(), 1);
        CHECK.due("place() of the last byte", town.place(), 1999);
        CHECK.due("count(4)", town.count(4), 0);
    }

    private static void backward() {
        DayTown town = new DayTown();
        CHECK.due("back(0) of none", town.back(0), 0);
        CHECK.due("back(1) of none", town.back(1), -1);
        Check.feedText(town, "grows 1; grows 2;xyz");
        CHECK.due("back(-1)", town.back(-1), -1);
        CHECK.due("back(21)", town.back(21), -1);
        CHECK.due("back(least)", town.back(Integer.MIN_VALUE), -1);
        CHECK.due("back(most)", town.back(Integer.MAX_VALUE), -1);
        CHECK.due("back(0)", town.back(0), 20);
        CHECK.due("back(3)", town.back(3), 17);
        CHECK.due("feed behind it", Check.feedText(town, " grows 3;"), 26);
        CHECK.due("read()", town.read(), 0);
        CHECK.due("count(3)", town.count(3), 3);
        Check.feedText(town, "grows 1;");
        CHECK.due("back of all", town.back(8), 0);
        CHECK.due("read() of none", town.read(), 0);
        CHECK.due("no rules", town.count(3), 0);
    }

    private static void readTakesTheTape() {
        DayTown town = new DayTown();
        CHECK.due("read()", Check.readText(town, "grows 1;grows 2;"), 0);
        CHECK.due("tape is empty", town.count(4), 0);
        CHECK.due("two rules", town.count(3), 2);
        CHECK.due("read() with a fault", Check.readText(town, "grows 1;grows"), 1);
        CHECK.due("tape is empty", town.count(4), 0);
        CHECK.due("place()", town.place(), 13);
        CHECK.due("place() again", town.place(), 13);
        CHECK.due("read() of the empty tape", town.read(), 0);
        CHECK.due("place() without", town.place(), -1);
        CHECK.due("no rules", town.count(3), 0);
    }

    private static void faultChangesNothing() {
        DayTown town = Check.townOf(2);
        town.loan(0, 0, 0, 5, 1);
        CHECK.due("owes without law", town.owes(1, 0, 0, 1), 11);
        Check.readText(town, "grows 3;");
        CHECK.due("owes by the law", town.owes(1, 0, 0, 1), 3);
        CHECK.due("read() with a fault", Check.readText(town, "grows 4; ban if 1 == 1; grows"), 1);
        CHECK.due("owes by the law that stays", town.owes(1, 0, 0, 1), 3);
        CHECK.due("its rules", town.count(3), 1);
        CHECK.due("its rule", town.grows(0, 1), 0);
        CHECK.due("read() in its place", Check.readText(town, "ban if 1 == 1;"), 0);
        CHECK.due("void by the new law", town.isVoid(0, 1), 4);
        CHECK.due("owes by the new law", town.owes(1, 0, 0, 1), 0);
    }
}
