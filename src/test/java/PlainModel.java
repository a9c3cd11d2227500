import java.util.ArrayList;
import java.util.BitSet;
import java.util.List;

/** The document once more, in the plainest way and without a care for speed; random runs ask both. */
final class PlainModel {
    private static final int NONE = -1;

    private static final class Block {
        int book;
        int editor;
        final BitSet cells = new BitSet();
        final BitSet days = new BitSet();
        boolean ended;
        int ends;
        int mark;

        boolean clashes(Block other) {
            return book == other.book && cells.intersects(other.cells) && days.intersects(other.days);
        }
    }

    private final long[][] trays = new long[4][];
    private final int[] sorts = new int[4];
    private int agents;
    private int editors;
    private int hours = 4;
    private final int[][] worths = new int[8][10];
    private PlainBest plan;
    private final List<Boolean> books = new ArrayList<>();
    private final boolean[][] lists = new boolean[12][10];
    private final List<Block> grants = new ArrayList<>();
    private final List<int[]> options = new ArrayList<>();
    private final List<Block> offers = new ArrayList<>();
    private int now;
    private int[] sold;
    int status;
    long upper;
    long lower = 1;

    private int no(int why) {
        status = why;
        return NONE;
    }

    private boolean not(int why) {
        status = why;
        return false;
    }

    private static boolean out(long v, long least, long most) {
        return v < least || v > most;
    }

    boolean tray(int tray, int sort, int many) {
        if (out(tray, 0, 3) || out(sort, 0, 3)) {
            return not(1);
        }
        if (many > 40) {
            return not(2);
        }
        if (many < 0) {
            return not(6);
        }
        trays[tray] = new long[many];
        sorts[tray] = sort;
        status = 0;
        return true;
    }

    private boolean place(int tray, int place) {
        if (out(tray, 0, 3)) {
            return not(1);
        }
        if (trays[tray] == null) {
            return not(4);
        }
        if (out(place, 0, trays[tray].length - 1)) {
            return not(5);
        }
        status = 0;
        return true;
    }

    boolean write(int tray, int place, long v) {
        if (!place(tray, place)) {
            return false;
        }
        int spare = 64 - (8 << sorts[tray]);
        trays[tray][place] = v << spare >> spare;
        return true;
    }

    long read(int tray, int place) {
        return place(tray, place) ? trays[tray][place] : NONE;
    }

    boolean pour(int tray, int i, int to, int j, int many) {
        if (out(tray, 0, 3) || out(to, 0, 3)) {
            return not(1);
        }
        if (trays[tray] == null || trays[to] == null) {
            return not(4);
        }
        if (sorts[tray] != sorts[to]) {
            return not(11);
        }
        if (many < 0) {
            return not(6);
        }
        if (i < 0 || j < 0 || (long) i + many > trays[tray].length || (long) j + many > trays[to].length) {
            return not(5);
        }
        long[] were = trays[tray].clone();
        for (int k = 0; k < many; k++) {
            trays[to][j + k] = were[i + k];
        }
        status = 0;
        return true;
    }

    int agent() {
        if (agents == 8) {
            return no(7);
        }
        plan = null;
        status = 0;
        return agents++;
    }

    int editor() {
        if (editors == 10) {
            return no(7);
        }
        plan = null;
        status = 0;
        return editors++;
    }

    boolean hours(int many) {
        if (out(many, 1, 8)) {
            return not(2);
        }
        hours = many;
        plan = null;
        status = 0;
        return true;
    }

    boolean worth(int agent, int editor, int worth) {
        if (out(agent, 0, agents - 1) || out(editor, 0, editors - 1)) {
            return not(1);
        }
        if (out(worth, 0, 100)) {
            return not(2);
        }
        worths[agent][editor] = worth;
        plan = null;
        status = 0;
        return true;
    }

    private PlainBest plan() {
        if (plan == null) {
            plan = new PlainBest(worths, agents, editors, hours);
        }
        return plan;
    }

    int best() {
        status = 0;
        return plan().worth;
    }

    int meets(int agent, int editor) {
        if (out(agent, 0, agents - 1) || out(editor, 0, editors - 1)) {
            return no(1);
        }
        int hour = plan().hour[agent][editor];
        status = hour < 0 ? 9 : 0;
        return hour;
    }

    int at(int agent, int hour) {
        if (out(agent, 0, agents - 1)) {
            return no(1);
        }
        if (out(hour, 0, hours - 1)) {
            return no(2);
        }
        for (int e = 0; e < editors; e++) {
            if (plan().hour[agent][e] == hour) {
                status = 0;
                return e;
            }
        }
        return no(9);
    }

    int book(boolean secret) {
        if (books.size() == 12) {
            return no(7);
        }
        books.add(secret);
        status = 0;
        return books.size() - 1;
    }

    private boolean noBook(int book) {
        return out(book, 0, books.size() - 1);
    }

    private boolean noEditor(int editor) {
        return out(editor, 0, editors - 1);
    }

    boolean list(int book, int editor, boolean is) {
        if (noBook(book) || noEditor(editor)) {
            return not(1);
        }
        if (lists[book][editor] == is) {
            return not(8);
        }
        lists[book][editor] = is;
        status = 0;
        return true;
    }

    int hears(int book, int editor) {
        if (noEditor(editor)) {
            return no(1);
        }
        status = 0;
        return !noBook(book) && (!books.get(book) || lists[book][editor]) ? 1 : 0;
    }

    private static boolean noRights(int lands, int tongues, int forms, int from, int to) {
        return out(lands, 1, 255) || out(tongues, 1, 15) || out(forms, 1, 15) || out(from, 0, 9999) || out(to, 0, 9999)
                || from > to;
    }

    private static Block block(int book, int editor, int lands, int tongues, int forms, int from, int to) {
        Block block = new Block();
        block.book = book;
        block.editor = editor;
        for (int l = 0; l < 8; l++) {
            for (int t = 0; t < 4; t++) {
                for (int f = 0; f < 4; f++) {
                    if ((lands >> l & tongues >> t & forms >> f & 1) != 0) {
                        block.cells.set(l * 16 + t * 4 + f);
                    }
                }
            }
        }
        for (int d = from; d <= to; d++) {
            block.days.set(d);
        }
        return block;
    }

    private boolean clash(Block block) {
        for (Block grant : grants) {
            if (grant.clashes(block)) {
                return true;
            }
        }
        return false;
    }

    int grant(int book, int editor, int lands, int tongues, int forms, int from, int to) {
        if (noBook(book) || noEditor(editor)) {
            return no(1);
        }
        if (noRights(lands, tongues, forms, from, to)) {
            return no(2);
        }
        if (grants.size() == 60) {
            return no(7);
        }
        Block block = block(book, editor, lands, tongues, forms, from, to);
        if (clash(block)) {
            return no(10);
        }
        grants.add(block);
        status = 0;
        return grants.size() - 1;
    }

    boolean end(int grant, int day) {
        if (out(grant, 0, grants.size() - 1)) {
            return not(1);
        }
        if (out(day, 0, 9999)) {
            return not(2);
        }
        if (grants.get(grant).ended) {
            return not(8);
        }
        grants.get(grant).ended = true;
        grants.get(grant).days.clear(day, 10000);
        status = 0;
        return true;
    }

    int has(int book, int land, int tongue, int form, int day) {
        if (noBook(book)) {
            return no(1);
        }
        if (out(land, 0, 7) || out(tongue, 0, 3) || out(form, 0, 3) || out(day, 0, 9999)) {
            return no(2);
        }
        for (Block grant : grants) {
            if (grant.book == book && grant.cells.get(land * 16 + tongue * 4 + form) && grant.days.get(day)) {
                status = 0;
                return grant.editor;
            }
        }
        return no(9);
    }

    boolean left(int book, int lands, int tongues, int forms, int day) {
        if (noBook(book)) {
            return not(1);
        }
        if (noRights(lands, tongues, forms, day, day)) {
            return not(2);
        }
        BitSet cells = block(book, 0, lands, tongues, forms, day, day).cells;
        int all = cells.cardinality();
        for (Block grant : grants) {
            if (grant.book == book && grant.days.get(day)) {
                cells.andNot(grant.cells);
            }
        }
        int free = cells.cardinality();
        int divisor = all;
        while (free % divisor != 0 || all % divisor != 0) {
            divisor--;
        }
        upper = free / divisor;
        lower = all / divisor;
        status = 0;
        return true;
    }

    boolean option(int book, int editor, int from, int to) {
        if (noBook(book) || noEditor(editor)) {
            return not(1);
        }
        if (out(from, 0, 100_000) || out(to, 0, 100_000) || from > to) {
            return not(2);
        }
        if (options.size() == 30) {
            return not(7);
        }
        options.add(new int[] {book, editor, from, to});
        status = 0;
        return true;
    }

    private boolean allowed(Block block, int minute) {
        boolean allowed = (!books.get(block.book) || lists[block.book][block.editor]) && !clash(block);
        for (int[] option : options) {
            boolean lasts = option[0] == block.book && option[2] <= minute && minute <= option[3];
            allowed = allowed && (!lasts || option[1] == block.editor);
        }
        return allowed;
    }

    int may(int book, int editor, int lands, int tongues, int forms, int from, int to, int minute) {
        if (noBook(book) || noEditor(editor)) {
            return no(1);
        }
        if (noRights(lands, tongues, forms, from, to) || out(minute, 0, 100_000)) {
            return no(2);
        }
        status = 0;
        return allowed(block(book, editor, lands, tongues, forms, from, to), minute) ? 1 : 0;
    }

    int auction(int tray, int floor, int by, int topping, int step) {
        if (out(tray, 0, 3) || (by != NONE && noEditor(by))) {
            return no(1);
        }
        if (out(floor, 0, 1_000_000) || out(topping, 0, 50) || out(step, 1, 100_000)) {
            return no(2);
        }
        if (floor > 0 && by == NONE || floor == 0 && by != NONE) {
            return no(2);
        }
        if (trays[tray] == null) {
            return no(4);
        }
        if (trays[tray].length < editors) {
            return no(5);
        }
        long[] limits = trays[tray];
        for (int e = 0; e < editors; e++) {
            if (out(limits[e], 0, 1_000_000) || e == by && limits[e] < floor) {
                return no(2);
            }
        }
        long bid = floor;
        int who = by;
        int rounds = 0;
        boolean[] gone = new boolean[editors];
        for (boolean bids = true; bids;) {
            bids = false;
            rounds++;
            for (int e = 0; e < editors; e++) {
                if (e == by || e == who || gone[e]) {
                    continue;
                }
                if (limits[e] != 0 && limits[e] >= bid + step) {
                    bid += step;
                    who = e;
                    bids = true;
                } else {
                    gone[e] = true;
                }
            }
        }
        if (who == NONE) {
            return no(9);
        }
        int topped = 0;
        if (by != NONE && who != by) {
            long price = bid + (bid * topping % 100 == 0 ? bid * topping / 100 : bid * topping / 100 + 1);
            if (limits[by] >= price) {
                bid = price;
                who = by;
                topped = 1;
            }
        }
        sold = new int[] {(int) bid, rounds, topped};
        status = 0;
        return who;
    }

    int sold(int what) {
        if (out(what, 0, 2)) {
            return no(2);
        }
        if (sold == null) {
            return no(9);
        }
        status = 0;
        return sold[what];
    }

    int offer(int book, int editor, int lands, int tongues, int forms, int from, int to, int minute, int ends) {
        if (noBook(book) || noEditor(editor)) {
            return no(1);
        }
        if (noRights(lands, tongues, forms, from, to) || out(minute, 0, 100_000) || out(ends, 0, 100_000)
                || ends <= minute) {
            return no(2);
        }
        if (minute < now) {
            return no(3);
        }
        if (offers.size() == 60) {
            return no(7);
        }
        Block block = block(book, editor, lands, tongues, forms, from, to);
        if (!allowed(block, minute)) {
            return no(12);
        }
        block.ends = ends;
        offers.add(block);
        now = minute;
        status = 0;
        return offers.size() - 1;
    }

    private static int mark(Block offer, int minute) {
        if (offer.mark != 0) {
            return offer.mark;
        }
        return minute <= offer.ends ? 0 : 3;
    }

    int take(int offer, int minute) {
        if (out(offer, 0, offers.size() - 1)) {
            return no(1);
        }
        if (out(minute, 0, 100_000)) {
            return no(2);
        }
        if (minute < now) {
            return no(3);
        }
        Block block = offers.get(offer);
        if (mark(block, minute) != 0) {
            return no(13);
        }
        if (grants.size() == 60) {
            return no(7);
        }
        if (!allowed(block, minute)) {
            return no(12);
        }
        now = minute;
        block.mark = 1;
        Block grant = new Block();
        grant.book = block.book;
        grant.editor = block.editor;
        grant.cells.or(block.cells);
        grant.days.or(block.days);
        grants.add(grant);
        for (Block other : offers) {
            if (other != block && other.book == block.book && mark(other, minute) == 0 && clash(other)) {
                other.mark = 2;
            }
        }
        status = 0;
        return grants.size() - 1;
    }

    int state(int offer, int minute) {
        if (out(offer, 0, offers.size() - 1)) {
            return no(1);
        }
        if (out(minute, 0, 100_000)) {
            return no(2);
        }
        if (minute < now) {
            return no(3);
        }
        status = 0;
        return mark(offers.get(offer), minute);
    }
}
