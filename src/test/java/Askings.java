import java.util.ArrayList;
import java.util.List;

/** Every call of the face that has a STATUS other than 0, with what can be wrong with it; promises 3 to 29. */
final class Askings {
    private static final int MIN = Integer.MIN_VALUE;
    private static final int MAX = Integer.MAX_VALUE;

    private Askings() {
    }

    static List<Asking> all() {
        List<Asking> all = new ArrayList<>();
        addTrays(all);
        addMeetings(all);
        addLists(all);
        addGrants(all);
        addOptions(all);
        addAuctions(all);
        addOffers(all);
        addTakes(all);
        return all;
    }

    private static void addTrays(List<Asking> all) {
        all.add(new Asking("tray", Fairs::rich, (x, n) -> x.tray(n[0], n[1], n[2]), 1, 0, 3)
                .then(1).range(0, 0, 3).range(1, 0, 3).then(2).most(2, 40).then(6).least(2, 0));
        all.add(new Asking("write", Fairs::rich, (x, n) -> x.write(n[0], n[1], n[2]), 1, 2, 77)
                .then(1).least(0, 0).wrong(0, 4, MAX).then(4).wrong(0, 3).then(5).range(1, 0, 4).fine(2, MIN, MAX));
        all.add(new Asking("read", Fairs::rich, (x, n) -> x.read(n[0], n[1]), 1, 2)
                .then(1).least(0, 0).wrong(0, 4, MAX).then(4).wrong(0, 3).then(5).range(1, 0, 4));
        all.add(new Asking("pour", Fairs::rich, (x, n) -> x.pour(n[0], n[1], n[2], n[3], n[4]), 1, 1, 2, 0, 3)
                .then(1).wrong(0, -1, 4, MIN, MAX).wrong(2, -1, 4, MIN, MAX)
                .then(4).wrong(0, 3).wrong(2, 3)
                .then(11).wrong(0, 0).wrong(2, 0)
                .then(6).least(4, 0)
                .then(5).range(1, 0, 2).range(3, 0, 1).most(4, 4));
        all.add(new Asking("tray 3 once it is laid", Askings::withTrayThree, (x, n) -> x.write(n[0], n[1], n[2]), 1, 2, 77)
                .then(1).range(0, 0, 3));
        all.add(new Asking("pour with tray 3", Askings::withTrayThree, (x, n) -> x.pour(n[0], 0, n[1], 0, 0), 1, 2)
                .then(1).fine(0, 3).fine(1, 3).wrong(0, 4).wrong(1, 4));
    }

    private static FairTables withTrayThree() {
        FairTables x = Fairs.rich();
        x.tray(3, 2, 3);
        return x;
    }

    private static void addMeetings(List<Asking> all) {
        all.add(new Asking("agent", Fairs::rich, (x, n) -> x.agent())
                .again(7).then(7).after("8 agents", Fairs::fillAgents));
        all.add(new Asking("editor", Fairs::rich, (x, n) -> x.editor())
                .again(7).then(7).after("10 editors", Fairs::fillEditors));
        all.add(new Asking("hours", Fairs::rich, (x, n) -> x.hours(n[0]), 3).then(2).range(0, 1, 8));
        all.add(new Asking("worth", Fairs::rich, (x, n) -> x.worth(n[0], n[1], n[2]), 1, 2, 50)
                .then(1).range(0, 0, 2).range(1, 0, 3).then(2).range(2, 0, 100));
        all.add(new Asking("worth of the last", Askings::withAll, (x, n) -> x.worth(n[0], n[1], n[2]), 1, 2, 50)
                .then(1).range(0, 0, 7).range(1, 0, 9).then(2).range(2, 0, 100));
        all.add(new Asking("meets", Fairs::rich, (x, n) -> x.meets(n[0], n[1]), 1, 2)
                .then(1).range(0, 0, 2).range(1, 0, 3)
                .then(9).after("no worth", x -> x.worth(1, 2, 0)));
        all.add(new Asking("at", Fairs::rich, (x, n) -> x.at(n[0], n[1]), 1, 2)
                .then(1).range(0, 0, 2).then(2).range(1, 0, 3)
                .then(9).after("two meetings alone", x -> {
                    x.worth(1, 1, 0);
                    x.worth(1, 2, 0);
                }));
    }

    private static FairTables withAll() {
        FairTables x = Fairs.rich();
        Fairs.fillAgents(x);
        Fairs.fillEditors(x);
        return x;
    }

    private static void addLists(List<Asking> all) {
        all.add(new Asking("book", Fairs::rich, (x, n) -> x.book(n[0] != 0), 0)
                .again(7).then(7).fine(0, 1).after("12 books", Fairs::fillBooks));
        all.add(new Asking("book, secret", Fairs::rich, (x, n) -> x.book(true))
                .again(7).then(7).after("12 books", Fairs::fillBooks));
        all.add(new Asking("list", Fairs::rich, (x, n) -> x.list(n[0], n[1], true), 2, 2)
                .again(8).then(1).range(0, 0, 2).range(1, 0, 3)
                .then(8).after("on it already", x -> x.list(2, 2, true)));
        all.add(new Asking("list no more", Askings::withFullLists, (x, n) -> x.list(n[0], n[1], false), 2, 2)
                .again(8).then(1).range(0, 0, 2).range(1, 0, 3)
                .then(8).after("off it already", x -> x.list(2, 2, false)));
        all.add(new Asking("hears", Fairs::rich, (x, n) -> x.hears(n[0], n[1]), 0, 1)
                .then(1).range(1, 0, 3).fine(0, -1, 1, 2, 3, 12, MIN, MAX));
    }

    private static FairTables withFullLists() {
        FairTables x = Fairs.rich();
        for (int book = 0; book < 3; book++) {
            for (int editor = 0; editor < 4; editor++) {
                x.list(book, editor, true);
            }
        }
        return x;
    }

    /** RIGHTS from a place on: lands, tongues, forms, from day 5, to day 7. */
    private static Asking rights(Asking asking, int place) {
        return asking.range(place, 1, 255).range(place + 1, 1, 15).range(place + 2, 1, 15)
                .range(place + 3, 0, 7).range(place + 4, 5, 9_999).wrong(place + 3, 10_000);
    }

    private static void addGrants(List<Asking> all) {
        Asking grant = new Asking("grant", Fairs::rich, (x, n) -> x.grant(n[0], n[1], n[2], n[3], n[4], n[5], n[6]),
                0, 3, 4, 2, 2, 5, 7).again(10).then(1).range(0, 0, 2).range(1, 0, 3).then(2);
        all.add(rights(grant, 2).then(7).after("60 grants", Fairs::fillGrants)
                .then(10).after("a clash", Askings::clash));
        all.add(new Asking("end", Fairs::rich, (x, n) -> x.end(n[0], n[1]), 2, 7)
                .again(8).then(1).range(0, 0, 3).then(2).range(1, 0, 9_999)
                .then(8).wrong(0, 1).after("ended", x -> x.end(2, 8)));
        all.add(new Asking("has", Askings::withAllSold, (x, n) -> x.has(n[0], n[1], n[2], n[3], n[4]), 3, 2, 1, 1, 50)
                .then(1).wrong(0, -1, 4, MIN, MAX)
                .then(2).range(1, 0, 7).range(2, 0, 3).range(3, 0, 3).range(4, 0, 9_999)
                .then(9).wrong(0, 0).after("ended", x -> x.end(4, 50)));
        all.add(new Asking("left", Fairs::rich, (x, n) -> x.left(n[0], n[1], n[2], n[3], n[4]), 0, 255, 15, 15, 5)
                .then(1).range(0, 0, 2)
                .then(2).range(1, 1, 255).range(2, 1, 15).range(3, 1, 15).range(4, 0, 9_999));
    }

    private static void clash(FairTables x) {
        x.grant(0, 2, 6, 3, 2, 7, 8);
    }

    private static FairTables withAllSold() {
        FairTables x = Fairs.rich();
        x.book(false);
        x.grant(3, 1, 255, 15, 15, 0, 9_999);
        return x;
    }

    private static void addOptions(List<Asking> all) {
        all.add(new Asking("option", Fairs::rich, (x, n) -> x.option(n[0], n[1], n[2], n[3]), 0, 3, 30, 33)
                .again(7).then(1).range(0, 0, 2).range(1, 0, 3)
                .then(2).range(2, 0, 33).range(3, 30, 100_000).wrong(2, 100_001)
                .then(7).after("30 options", Fairs::fillOptions));
        Asking may = new Asking("may", Fairs::rich, (x, n) -> x.may(n[0], n[1], n[2], n[3], n[4], n[5], n[6], n[7]),
                0, 3, 4, 2, 2, 5, 7, 20).then(1).range(0, 0, 2).range(1, 0, 3).then(2);
        all.add(rights(may, 2).range(7, 0, 100_000));
    }

    private static void addAuctions(List<Asking> all) {
        all.add(new Asking("auction", Fairs::rich, (x, n) -> x.auction(n[0], n[1], n[2], n[3], n[4]), 0, 10, 0, 10, 10)
                .then(1).wrong(0, -1, 4, MIN, MAX).wrong(2, -2, 4, MIN, MAX).fine(2, 1, 2)
                .then(2).range(1, 1, 1_000_000).wrong(2, -1).range(3, 0, 50).range(4, 1, 100_000)
                .then(4).wrong(0, 3)
                .then(5).after("3 numbers for 4 editors", x -> x.tray(0, 3, 3))
                .then(2).after("a limit of -1", x -> x.write(0, 1, -1))
                .after("a limit of 1000001", x -> x.write(0, 2, 1_000_001))
                .after("a limit of 2 to the 32", x -> x.write(0, 2, 1L << 32))
                .after("the last limit is the least number", x -> x.write(0, 3, Long.MIN_VALUE))
                .after("the floor's limit below it", x -> x.write(0, 0, 9))
                .after("the floor's limit above a million", x -> x.write(0, 0, 1_000_001)));
        all.add(new Asking("auction, bare", Fairs::rich, (x, n) -> x.auction(n[0], n[1], n[2], n[3], n[4]), 0, 0, -1, 10, 10)
                .then(1).wrong(0, -1, 4, MIN, MAX).wrong(2, -2, 4, MIN, MAX)
                .then(2).least(1, 0).wrong(1, 1, 1_000_000, MAX).wrong(2, 0, 3).range(3, 0, 50).range(4, 1, 100_000)
                .then(4).wrong(0, 3)
                .then(5).after("3 numbers for 4 editors", x -> x.tray(0, 3, 3))
                .then(2).after("a limit of -1", x -> x.write(0, 3, -1))
                .after("a limit of 1000001", x -> x.write(0, 0, 1_000_001))
                .then(9).after("limits of 0", x -> x.tray(0, 3, 4))
                .after("limits below the step", x -> {
                    x.tray(0, 3, 4);
                    x.write(0, 1, 9);
                }));
        all.add(new Asking("sold", Fairs::rich, (x, n) -> x.sold(n[0]), 0)
                .then(2).range(0, 0, 2).then(9).instead("no auction", () -> Fairs.withBooks(1)));
    }

    private static void addOffers(List<Asking> all) {
        Asking offer = new Asking("offer", Fairs::rich,
                (x, n) -> x.offer(n[0], n[1], n[2], n[3], n[4], n[5], n[6], n[7], n[8]), 0, 3, 4, 2, 2, 5, 7, 20, 30)
                .again(7).then(1).least(0, 0).fine(0, 1).wrong(0, 3, MAX).range(1, 0, 3).then(2);
        all.add(rights(offer, 2).wrong(7, -1, MIN).most(7, 29).wrong(7, 100_001)
                .fine(8, 21).wrong(8, 0, -1, MIN).most(8, 100_000)
                .then(3).wrong(7, 9, 0).fine(7, 10)
                .then(7).after("60 offers", Fairs::fillOffers)
                .then(12).wrong(0, 2).after("a clash", Askings::clash)
                .after("an option of another one", x -> x.option(0, 1, 0, 100_000)));
        all.add(new Asking("offer of a new fair", () -> Fairs.withBooks(1, false),
                (x, n) -> x.offer(0, 0, 1, 1, 1, 0, 0, n[0], n[1]), 20, 30).again(7).then(2).range(0, 0, 29).range(1, 21, 100_000));
        all.add(new Asking("state", Fairs::rich, (x, n) -> x.state(n[0], n[1]), 3, 20)
                .then(1).range(0, 0, 5).then(2).wrong(1, -1, MIN).most(1, 100_000).then(3).wrong(1, 9, 0).fine(1, 10));
    }

    private static void addTakes(List<Asking> all) {
        all.add(new Asking("take", Fairs::rich, (x, n) -> x.take(n[0], n[1]), 3, 20)
                .again(13).then(1).wrong(0, -1, 6, MIN, MAX).fine(0, 4, 5)
                .then(2).wrong(1, -1, 100_001, MIN, MAX)
                .then(3).wrong(1, 9, 0).fine(1, 10)
                .then(13).wrong(0, 0, 1, 2).wrong(1, 41, 100_000).fine(1, 40)
                .then(7).after("60 grants", Fairs::fillGrants)
                .then(12).after("a clash", x -> x.grant(0, 1, 48, 4, 4, 5, 9))
                .after("an option of another one", x -> x.option(0, 1, 0, 100_000)));
        all.add(new Asking("take of a secret book's", Fairs::rich, (x, n) -> x.take(n[0], n[1]), 4, 20)
                .again(13).then(1).wrong(0, 6)
                .then(2).wrong(1, -1)
                .then(3).wrong(1, 9)
                .then(13).wrong(0, 2).wrong(1, 41)
                .then(7).after("60 grants", Fairs::fillGrants)
                .then(12).after("not on the list", x -> x.list(1, 0, false)));
        all.add(new Asking("take at the last minute", Fairs::rich, (x, n) -> x.take(n[0], n[1]), 5, 20)
                .again(13).then(2).most(1, 100_000));
    }
}
