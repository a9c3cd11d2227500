import java.util.ArrayList;
import java.util.Arrays;
import java.util.List;

/**
 * "A call with another STATUS than 0 gives NONE, or false, and changes nothing but STATUS": two fairs are made
 * alike, on one of them a call is refused, and from then on both answer alike whatever they are asked.
 */
public final class UnchangedTest {
    private interface Question {
        void on(FairTables x, List<Long> answers);
    }

    private static final List<Question> QUESTIONS = Arrays.asList(UnchangedTest::askTrays, UnchangedTest::askMeetings,
            UnchangedTest::askNewcomers, UnchangedTest::askBooks, UnchangedTest::askCells, UnchangedTest::askOptions,
            UnchangedTest::askOffers, UnchangedTest::askTakes, UnchangedTest::askRooms);

    public static void main(String[] args) {
        for (Asking asking : Askings.all()) {
            for (Asking.Fault fault : asking.faults) {
                for (Question question : QUESTIONS) {
                    compare(asking, fault, question);
                }
            }
        }
        Due.end();
    }

    private static void compare(Asking asking, Asking.Fault fault, Question question) {
        FairTables refused = asking.fairWith(fault);
        FairTables twin = asking.fairWith(fault);
        Due.refused(asking.nameWith(fault), refused, asking.askWith(refused, fault), fault.status);
        List<Long> got = new ArrayList<>();
        List<Long> want = new ArrayList<>();
        question.on(refused, got);
        question.on(twin, want);
        Due.is(asking.nameWith(fault) + " changes nothing", got.equals(want), true);
    }

    private static void note(FairTables x, List<Long> answers, long answer) {
        answers.add(answer);
        answers.add((long) x.status());
    }

    private static void note(FairTables x, List<Long> answers, boolean answer) {
        note(x, answers, answer ? 1 : 0);
    }

    private static void askTrays(FairTables x, List<Long> answers) {
        // The FRACTION and the latest AUCTION first, since they are short.
        answers.add(x.upper());
        answers.add(x.lower());
        for (int what = 0; what < 3; what++) {
            note(x, answers, x.sold(what));
        }
        for (int tray = 0; tray < 4; tray++) {
            for (int place = 0; place <= 11; place++) {
                note(x, answers, x.read(tray, place));
            }
            note(x, answers, x.read(tray, 39));
            // What comes back tells the sort.
            note(x, answers, x.write(tray, 0, 0x123456789ABCDEFL));
            note(x, answers, x.read(tray, 0));
        }
    }

    private static void askMeetings(FairTables x, List<Long> answers) {
        note(x, answers, x.best());
        for (int agent = 0; agent < 4; agent++) {
            for (int editor = 0; editor < 5; editor++) {
                note(x, answers, x.meets(agent, editor));
            }
            for (int hour = 0; hour <= 8; hour++) {
                note(x, answers, x.at(agent, hour));
            }
        }
    }

    private static void askNewcomers(FairTables x, List<Long> answers) {
        note(x, answers, x.agent());
        note(x, answers, x.editor());
        for (int agent = 0; agent < 8; agent++) {
            for (int editor = 0; editor < 10; editor += 3) {
                note(x, answers, x.meets(agent, editor));
            }
        }
        note(x, answers, x.worth(3, 4, 1));
        note(x, answers, x.best());
    }

    private static void askBooks(FairTables x, List<Long> answers) {
        for (int book = 0; book < 5; book++) {
            for (int editor = 0; editor < 5; editor++) {
                note(x, answers, x.hears(book, editor));
            }
        }
        for (int book = 0; book < 3; book++) {
            for (int editor = 0; editor < 4; editor++) {
                note(x, answers, x.list(book, editor, true));
            }
        }
        note(x, answers, x.book(true));
        note(x, answers, x.hears(3, 0));
    }

    private static void askCells(FairTables x, List<Long> answers) {
        int[] days = {0, 4, 5, 6, 7, 8, 9, 10, 9_999};
        for (int book = 0; book < 4; book++) {
            for (int day : days) {
                note(x, answers, x.left(book, 255, 15, 15, day));
                answers.add(x.upper());
                answers.add(x.lower());
            }
            for (int land = 0; land < 8; land++) {
                note(x, answers, x.has(book, land, 0, 0, 5));
                note(x, answers, x.has(book, land, 2, 2, 5));
            }
        }
    }

    private static void askOptions(FairTables x, List<Long> answers) {
        int[] minutes = {0, 20, 30, 33, 50, 100_000};
        for (int book = 0; book < 3; book++) {
            for (int editor = 0; editor < 4; editor++) {
                for (int minute : minutes) {
                    note(x, answers, x.may(book, editor, 64, 8, 8, 0, 9_999, minute));
                }
            }
        }
    }

    private static void askOffers(FairTables x, List<Long> answers) {
        int[] minutes = {0, 2, 9, 10, 11, 20, 40, 41, 100_000};
        for (int offer = 0; offer < 7; offer++) {
            for (int minute : minutes) {
                note(x, answers, x.state(offer, minute));
            }
        }
        note(x, answers, x.offer(0, 3, 4, 2, 2, 5, 7, 9, 30));
        note(x, answers, x.offer(0, 3, 4, 2, 2, 5, 7, 10, 30));
        note(x, answers, x.grant(0, 3, 4, 2, 2, 5, 7));
    }

    private static void askTakes(FairTables x, List<Long> answers) {
        for (int offer = 6; offer >= 0; offer--) {
            note(x, answers, x.take(offer, 9));
            note(x, answers, x.take(offer, 10));
        }
        for (int offer = 0; offer < 7; offer++) {
            note(x, answers, x.state(offer, 10));
        }
        note(x, answers, x.end(4, 0));
        note(x, answers, x.end(2, 0));
        note(x, answers, x.auction(0, 10, 0, 10, 10));
    }

    /** How many more there is room for. */
    private static void askRooms(FairTables x, List<Long> answers) {
        int options = Fairs.fill(x, (y, i) -> y.option(0, 0, 0, 0));
        int grants = Fairs.fill(x, (y, day) -> y.grant(0, 0, 128, 1, 1, day, day) >= 0);
        int offers = Fairs.fill(x, (y, i) -> y.offer(0, 0, 128, 2, 1, 0, 0, 100, 101) >= 0);
        int books = Fairs.fill(x, (y, i) -> y.book(false) >= 0);
        answers.addAll(Arrays.asList((long) options, (long) grants, (long) offers, (long) books));
    }
}
