/** Promises 10 to 12: follow, type, clearText. */
public final class TextsTest {
    private static final Answers A = new Answers("TextsTest");

    public static void main(String[] args) {
        types();
        findsFaults();
        findsFaultsAtEveryPlace();
        takesEveryOrder();
        followsInOrder();
        followsAllOrNone();
        isOneAct();
        doesNothingWhereResetOrFinishWouldBeNone();
        theTextIsNoPartOfTheState();
        A.end();
    }

    private static void types() {
        AppendZones x = new AppendZones();
        A.due("empty already", x.clearText(), 0);
        for (int i = 1; i <= 60; i++) {
            A.due("the character " + i, x.type((char) (i * 1100)), i);
        }
        A.due("the character 61", x.type('p'), -3);
        A.due("its length", x.count(15), 60);
        A.due("nothing is recorded", x.count(14), 0);
        A.due("clearText()", x.clearText(), 60);
        A.due("its length", x.count(15), 0);
        A.due("empty already", x.clearText(), 0);
        char[] odd = {(char) 0, (char) 255, (char) 256, (char) 0xFFFF, '\n', (char) 0xD800};
        for (int i = 0; i < odd.length; i++) {
            A.due("any character", x.type(odd[i]), i + 1);
        }
        A.due("is a fault", x.follow(), -100);
    }

    private static void fault(String text, int index) {
        AppendZones x = new AppendZones();
        A.due("follow() of \"" + text + "\"", Answers.followed(x, text), -100 - index);
        A.due("nothing came of it", x.count(0) + x.count(7) + x.count(14), 0);
        A.due("the text stays", x.count(15), text.length());
    }

    private static void findsFaults() {
        fault("", 0);
        fault(";", 0);
        fault(" p1", 0);
        fault("p1 ", 2);
        fault("p1;", 3);
        fault("p1;;p1", 3);
        fault("p", 1);
        fault("p0", 1);
        fault("p;", 1);
        fault("p10", 2);
        fault("r", 1);
        fault("r8", 1);
        fault("r12", 2);
        fault("f", 1);
        fault("f9", 1);
        fault("fa", 1);
        fault("R1", 0);
        fault("P1", 0);
        fault("4>1=5", 0);
        fault("9>1=5", 0);
        fault("3", 1);
        fault("3<1=5", 1);
        fault("3>", 2);
        fault("3>8=5", 2);
        fault("3>1", 3);
        fault("3>1:5", 3);
        fault("3>1=", 4);
        fault("3>1=;", 4);
        fault("3>1=x", 4);
        fault("3>1=-1", 4);
        fault("3>1=00", 5);
        fault("3>1=05", 5);
        fault("3>1=5x", 5);
        fault("3>1=100", 6);
        fault("3>1=55x", 6);
        fault("3>1=5;", 6);
        fault("3>1=55;", 7);
        fault("p1;r1;f1;3>1=55;0>0=0;4", 22);
        fault("3>1=5p1", 5);
        fault("03>1=5", 1);
    }

    /** Each place of a good text in turn takes each of the 256 first characters. */
    private static void findsFaultsAtEveryPlace() {
        String[] allowed = {"0123rfp", ">", "01234567", "=", "0123456789", "0123456789;"};
        String good = "2>6=4";
        for (int at = 0; at <= good.length(); at++) {
            for (char c = 0; c < 256; c++) {
                String text = good.substring(0, at) + c;
                boolean whole = at == 4 && c >= '0' && c <= '9' || at == 5 && c >= '0' && c <= '9';
                boolean isAllowed = allowed[at].indexOf(c) >= 0;
                int want = whole ? 1 : -100 - (isAllowed ? text.length() : at);
                A.due("follow() of \"" + good.substring(0, at) + "\" and " + (int) c, Answers.followed(new AppendZones(), text), want);
            }
        }
    }

    private static void takesEveryOrder() {
        for (int v = 0; v < 100; v++) {
            AppendZones x = new AppendZones();
            int w = v % 4, z = v % 8;
            A.due("one order", Answers.followed(x, w + ">" + z + "=" + v), 1);
            A.due("writer", x.appended(0, 0), w);
            A.due("zone", x.appended(0, 1), z);
            A.due("value", x.appended(0, 2), v);
        }
        for (int t = 1; t <= 9; t++) {
            AppendZones x = new AppendZones();
            A.due("one order", Answers.followed(x, "p" + t), 1);
            A.due("the tick", x.count(0), t);
        }
        for (int z = 0; z < 8; z++) {
            AppendZones x = new AppendZones();
            x.append(0, z, 1);
            x.pass(9);
            A.due("one order", Answers.followed(x, "f" + z), 1);
            A.due("finished", x.zone(z, 0), 3);
            A.due("one order", Answers.followed(x, "r" + z), 1);
            A.due("reset", x.zone(z, 0), 0);
            A.due("its generation", x.zone(z, 4), 1);
        }
    }

    private static void followsInOrder() {
        AppendZones x = new AppendZones();
        A.due("seven orders", Answers.followed(x, "0>1=5;p9;1>1=77;f1;p1;0>2=0;p4"), 7);
        A.due("the first is told", x.read(1, 0), 5);
        A.due("the second failed", x.appended(1, 6), 3);
        A.due("the third is at work", x.appended(2, 3), 1);
        A.due("the tick", x.count(0), 14);
        A.due("the text stays", x.count(15), 30);
        A.due("once more", x.follow(), 7);
        A.due("the tick", x.count(0), 28);
        AppendZones y = new AppendZones();
        A.due("twenty orders", Answers.followed(y, "p1;p1;p1;p1;p1;p1;p1;p1;p1;p1;p1;p1;p1;p1;p1;p1;p1;p1;p1;p1"), 20);
        A.due("the tick", y.count(0), 20);
        AppendZones z = new AppendZones();
        String eight = "0>0=11;1>0=12;2>0=13;3>0=14;0>0=15;1>0=16;2>0=17;3>0=18";
        A.due("a fault in the last character", Answers.followed(z, eight + ";p99"), -100 - 58);
        A.due("a fault behind sixty characters", Answers.followed(z, eight + ";p9;p"), -100 - 60);
        A.due("its length", z.count(15), 60);
        A.due("sixty characters without a fault", Answers.followed(z, "0>0=1;1>0=12;2>0=13;3>0=14;0>0=15;1>0=16;2>0=17;3>0=18;p9;p9"), 10);
        A.due("the tick", z.count(0), 18);
    }

    private static void followsAllOrNone() {
        AppendZones x = new AppendZones();
        x.append(0, 0, 1);
        x.pass(4);
        A.due("the error of the append", Answers.followed(x, "p5;r0;1>1=1;0>1=1;0>1=2;0>1=3;0>1=4;f7"), -3);
        A.due("no tick passed", x.count(0), 4);
        A.due("nothing was reset", x.read(0, 0), 1);
        A.due("nothing was sent", x.count(7), 1);
        A.due("nothing is recorded", x.count(14), 2);
        A.due("the error of finishing", Answers.followed(x, "p9;f3;0>1=1;0>1=2;0>1=3;0>1=4"), -4);
        A.due("no tick passed", x.count(0), 4);
        A.due("in its turn the zone is empty", Answers.followed(x, "r0;f0"), -4);
        A.due("in its turn it is not", Answers.followed(x, "1>3=1;p1;f3"), 3);
        A.due("undo() of all of it", x.undo(), 2);
        A.due("the tick", x.count(0), 4);
        A.due("the zone", x.zone(3, 0), 0);
        AppendZones y = new AppendZones();
        for (int i = 0; i < 100; i++) {
            y.pass(99);
        }
        y.pass(90);
        A.due("the tick 9990", y.count(0), 9990);
        A.due("beyond the last tick", Answers.followed(y, "0>0=1;p5;p5"), -3);
        A.due("the tick", y.count(0), 9990);
        A.due("no append", y.count(7), 0);
        A.due("up to the last tick", Answers.followed(y, "0>0=1;p5;p4"), 3);
        A.due("the tick", y.count(0), 9999);
    }

    private static void isOneAct() {
        AppendZones x = new AppendZones();
        Answers.followed(x, "0>0=1;p1;p1;0>1=2;p9;r0");
        A.due("one state", x.count(14), 1);
        A.due("undo()", x.undo(), 0);
        A.due("all is undone", x.count(0) + x.count(7) + x.zone(0, 4), 0);
        A.due("the text stays", x.follow(), 6);
        A.due("the tick", x.count(0), 11);
    }

    private static void doesNothingWhereResetOrFinishWouldBeNone() {
        AppendZones x = new AppendZones();
        A.due("nothing, and an act all the same", Answers.followed(x, "r0;r7"), 2);
        A.due("it is recorded", x.count(14), 1);
        A.due("no generation", x.zone(0, 4), 0);
        A.due("the second finish does nothing", Answers.followed(x, "0>0=1;p9;f0;f0;p1"), 5);
        A.due("the tick", x.count(0), 10);
        A.due("full", x.zone(0, 0), 3);
    }

    private static void theTextIsNoPartOfTheState() {
        AppendZones x = new AppendZones();
        x.keep();
        x.type('p');
        x.pass(3);
        x.type('2');
        x.undo();
        A.due("undo leaves it", x.count(15), 2);
        x.restore();
        A.due("restore leaves it", x.count(15), 2);
        A.due("it can be followed", x.follow(), 1);
        A.due("the tick", x.count(0), 2);
        x.clearText();
        x.undo();
        A.due("undo brings none back", x.count(15), 0);
    }
}
