import java.util.ArrayList;
import java.util.List;
import java.util.regex.Matcher;
import java.util.regex.Pattern;

/**
 * The document a second time, in the plainest words: objects for leases and wishes, time unit by unit also in what
 * would be, saved states as whole copies. A refusal is the code of the exception: see the constants.
 */
final class PlainLeases {
    static final long INDEX = Long.MIN_VALUE + 1;
    static final long ARGUMENT = Long.MIN_VALUE + 2;
    static final long STATE = Long.MIN_VALUE + 3;

    private static final Pattern ORDER = Pattern.compile(
        "t(?<t>[0-7])\\*(?<tt>[1-9][0-9]?)|w(?<w>[0-7])@(?<wn>[0-9]|[1-5][0-9]|6[0-3])\\*(?<wt>[1-9][0-9]?)"
        + "|g(?<g>[0-7]):(?<gf>[0-9]|[1-5][0-9]|6[0-3])-(?<gt>[0-9]|[1-5][0-9]|6[0-3])|d(?<d>[1-9][0-9]?)");

    private static final class Wish {
        final int holder;
        final int term;

        Wish(int holder, int term) {
            this.holder = holder;
            this.term = term;
        }
    }

    private static final class Cell {
        int state;
        int holder;
        int begin;
        int end;
        int last;
        int given;
        List<Wish> wishes = new ArrayList<>();

        Cell copy() {
            Cell copy = new Cell();
            copy.state = state;
            copy.holder = holder;
            copy.begin = begin;
            copy.end = end;
            copy.last = last;
            copy.given = given;
            copy.wishes = new ArrayList<>(wishes);
            return copy;
        }
    }

    private int time;
    private int[] settings = {5, 16, 0, 32};
    private Cell[] cells = new Cell[64];
    private int[][] counted = new int[3][8];
    private int[] totals = new int[10];
    private String buffer = "";
    private final List<PlainLeases> saved = new ArrayList<>();

    PlainLeases() {
        for (int n = 0; n < 64; n++) {
            cells[n] = new Cell();
        }
    }

    private PlainLeases copy() {
        PlainLeases copy = new PlainLeases();
        copy.restore(this);
        return copy;
    }

    private void restore(PlainLeases from) {
        time = from.time;
        settings = from.settings.clone();
        totals = from.totals.clone();
        for (int n = 0; n < 64; n++) {
            cells[n] = from.cells[n].copy();
        }
        for (int k = 0; k < 3; k++) {
            counted[k] = from.counted[k].clone();
        }
    }

    private void save() {
        saved.add(copy());
        if (saved.size() > 6) {
            saved.remove(0);
        }
    }

    private boolean noHolder(int holder) {
        return holder < 0 || holder > 7;
    }

    private boolean noNumber(int n) {
        return n < 0 || n >= settings[3];
    }

    private boolean noTerm(int term) {
        return term < 1 || term > 999;
    }

    private int having(int holder) {
        int many = 0;
        for (Cell cell : cells) {
            if (cell.state != 0 && cell.holder == holder) {
                many++;
            }
        }
        return many;
    }

    private void give(Cell cell, int holder, int term) {
        cell.state = 1;
        cell.holder = holder;
        cell.begin = time;
        cell.end = time + term;
        cell.last = cell.end + settings[0];
        cell.given++;
        counted[0][holder]++;
        totals[5]++;
    }

    private void free(Cell cell) {
        cell.state = 0;
        totals[8]++;
        while (cell.state == 0 && !cell.wishes.isEmpty()) {
            Wish wish = cell.wishes.remove(0);
            if (having(wish.holder) < settings[1]) {
                give(cell, wish.holder, wish.term);
            } else {
                counted[1][wish.holder]++;
                totals[9]++;
            }
        }
    }

    private void unit() {
        for (Cell cell : cells) {
            if (cell.state == 1) {
                counted[2][cell.holder]++;
            }
        }
        time++;
        for (int n = 0; n < settings[3]; n++) {
            Cell cell = cells[n];
            if (cell.state == 1 && cell.end == time) {
                cell.state = 2;
            }
            if (cell.state == 2 && cell.last == time) {
                free(cell);
            }
        }
    }

    private long takeIt(int holder, int term) {
        if (having(holder) >= settings[1]) {
            return STATE;
        }
        for (int n = 0; n < settings[3]; n++) {
            if (cells[n].state == 0) {
                give(cells[n], holder, term);
                return n;
            }
        }
        return STATE;
    }

    long take(int holder, int term) {
        if (noHolder(holder)) {
            return INDEX;
        }
        if (noTerm(term)) {
            return ARGUMENT;
        }
        PlainLeases before = copy();
        long answer = takeIt(holder, term);
        return answer == STATE ? STATE : kept(before, answer);
    }

    private long kept(PlainLeases before, long answer) {
        saved.add(before);
        if (saved.size() > 6) {
            saved.remove(0);
        }
        return answer;
    }

    long takeSpan(int holder, int many, int term) {
        if (noHolder(holder)) {
            return INDEX;
        }
        if (many < 1 || many > 64 || noTerm(term)) {
            return ARGUMENT;
        }
        if (having(holder) + many > settings[1]) {
            return STATE;
        }
        for (int first = 0; first + many <= settings[3]; first++) {
            boolean all = true;
            for (int n = first; n < first + many; n++) {
                all &= cells[n].state == 0;
            }
            if (all) {
                save();
                for (int n = first; n < first + many; n++) {
                    give(cells[n], holder, term);
                }
                return first;
            }
        }
        return STATE;
    }

    private long wishIt(int holder, int n, int term) {
        Cell cell = cells[n];
        if (cell.state == 0) {
            if (having(holder) >= settings[1]) {
                return STATE;
            }
            give(cell, holder, term);
            return 0;
        }
        if (cell.wishes.size() == 3 || cell.holder == holder) {
            return STATE;
        }
        for (Wish wish : cell.wishes) {
            if (wish.holder == holder) {
                return STATE;
            }
        }
        cell.wishes.add(new Wish(holder, term));
        return cell.wishes.size();
    }

    long wish(int holder, int n, int term) {
        if (noHolder(holder) || noNumber(n)) {
            return INDEX;
        }
        if (noTerm(term)) {
            return ARGUMENT;
        }
        PlainLeases before = copy();
        long answer = wishIt(holder, n, term);
        return answer == STATE ? STATE : kept(before, answer);
    }

    long unwish(int holder, int n) {
        if (noHolder(holder) || noNumber(n)) {
            return INDEX;
        }
        for (Wish wish : cells[n].wishes) {
            if (wish.holder == holder) {
                save();
                cells[n].wishes.remove(wish);
                return cells[n].wishes.size();
            }
        }
        return STATE;
    }

    long renew(int holder, int n, int term) {
        if (noHolder(holder) || noNumber(n)) {
            return INDEX;
        }
        if (noTerm(term)) {
            return ARGUMENT;
        }
        Cell cell = cells[n];
        if (cell.state == 0 || cell.holder != holder || settings[2] == 1 && !cell.wishes.isEmpty()) {
            return STATE;
        }
        save();
        totals[6]++;
        totals[7] += cell.state == 2 ? 1 : 0;
        int previous = cell.end;
        cell.state = 1;
        cell.end = time + term;
        cell.last = cell.end + settings[0];
        return previous;
    }

    private long giveBackThem(int holder, int from, int to) {
        int many = 0;
        for (int n = from; n <= to; n++) {
            if (cells[n].state != 0 && cells[n].holder == holder) {
                many++;
                free(cells[n]);
            }
        }
        return many;
    }

    long giveBack(int holder, int from, int to) {
        if (noHolder(holder) || noNumber(from) || noNumber(to)) {
            return INDEX;
        }
        if (to < from) {
            return ARGUMENT;
        }
        save();
        return giveBackThem(holder, from, to);
    }

    private long passIt(int by) {
        int before = totals[8];
        for (int k = 0; k < by; k++) {
            unit();
        }
        return totals[8] - before;
    }

    long pass(int by) {
        if (by < 1 || by > 99) {
            return ARGUMENT;
        }
        if (time + by > 9999) {
            return STATE;
        }
        save();
        return passIt(by);
    }

    long set(int setting, int value) {
        if (setting < 0 || setting > 3) {
            return INDEX;
        }
        int[] least = {0, 1, 0, 4};
        int[] most = {50, 64, 1, 64};
        if (value < least[setting] || value > most[setting]) {
            return ARGUMENT;
        }
        for (int n = 0; n < 64; n++) {
            if (setting == 3 && cells[n].state != 0 && value < n + 1) {
                return STATE;
            }
        }
        save();
        int previous = settings[setting];
        settings[setting] = value;
        return previous;
    }

    long append(int code) {
        if (code < 33 || code > 126) {
            return ARGUMENT;
        }
        if (buffer.length() == 60) {
            return STATE;
        }
        buffer += (char) code;
        return buffer.length();
    }

    long clearBuffer() {
        int length = buffer.length();
        buffer = "";
        return length;
    }

    private static boolean isOrder(String text) {
        Matcher order = ORDER.matcher(text);
        return order.matches()
            && (order.group("g") == null || number(order, "gf") <= number(order, "gt"));
    }

    private static int number(Matcher order, String group) {
        return Integer.parseInt(order.group(group));
    }

    long run() {
        String[] parts = buffer.split(";", -1);
        for (String part : parts) {
            if (!isOrder(part)) {
                return ARGUMENT;
            }
        }
        save();
        buffer = "";
        int done = 0;
        for (String part : parts) {
            if (!carriedOut(part)) {
                break;
            }
            done++;
        }
        return done;
    }

    private boolean carriedOut(String text) {
        Matcher order = ORDER.matcher(text);
        if (!order.matches()) {
            return false;
        }
        if (order.group("t") != null) {
            return takeIt(number(order, "t"), number(order, "tt")) != STATE;
        }
        if (order.group("w") != null) {
            int n = number(order, "wn");
            return !noNumber(n) && wishIt(number(order, "w"), n, number(order, "wt")) != STATE;
        }
        if (order.group("g") != null) {
            int to = number(order, "gt");
            return !noNumber(to) && giveBackThem(number(order, "g"), number(order, "gf"), to) >= 0;
        }
        int by = number(order, "d");
        return time + by <= 9999 && passIt(by) >= 0;
    }

    long undo() {
        if (saved.isEmpty()) {
            return STATE;
        }
        restore(saved.remove(saved.size() - 1));
        return saved.size();
    }

    long number(int n, int what) {
        if (noNumber(n)) {
            return INDEX;
        }
        if (what < 0 || what > 8) {
            return ARGUMENT;
        }
        Cell cell = cells[n];
        if (what >= 1 && what <= 4 && cell.state == 0 || what >= 6 && what <= 7 && cell.wishes.isEmpty()) {
            return -1;
        }
        return switch (what) {
            case 0 -> cell.state;
            case 1 -> cell.holder;
            case 2 -> cell.begin;
            case 3 -> cell.end;
            case 4 -> cell.last;
            case 5 -> cell.wishes.size();
            case 6 -> cell.wishes.get(0).holder;
            case 7 -> cell.wishes.get(0).term;
            default -> cell.given;
        };
    }

    long holder(int holder, int what) {
        if (noHolder(holder)) {
            return INDEX;
        }
        if (what < 0 || what > 7) {
            return ARGUMENT;
        }
        if (what >= 5) {
            return counted[what - 5][holder];
        }
        int[] found = {0, 0, 0, -1, -1};
        for (int n = 63; n >= 0; n--) {
            Cell cell = cells[n];
            for (Wish wish : cell.wishes) {
                found[2] += wish.holder == holder ? 1 : 0;
            }
            if (cell.state != 0 && cell.holder == holder) {
                found[cell.state - 1]++;
                found[3] = n;
                if (cell.state == 1) {
                    found[4] = found[4] == -1 ? cell.end : Math.min(found[4], cell.end);
                }
            }
        }
        return found[what];
    }

    private List<int[]> spans() {
        List<int[]> spans = new ArrayList<>();
        int[] open = null;
        for (int n = 0; n < settings[3]; n++) {
            if (cells[n].state != 0) {
                open = null;
            } else if (open == null) {
                open = new int[] {n, 1};
                spans.add(open);
            } else {
                open[1]++;
            }
        }
        return spans;
    }

    long span(int span, int what) {
        if (span < 0 || what < 0 || what > 1) {
            return ARGUMENT;
        }
        return span < spans().size() ? spans().get(span)[what] : -1;
    }

    private int inState(int state) {
        int many = 0;
        for (int n = 0; n < settings[3]; n++) {
            many += cells[n].state == state ? 1 : 0;
        }
        return many;
    }

    long count(int what) {
        if (what < 0 || what > 12) {
            return ARGUMENT;
        }
        if (what >= 1 && what <= 3) {
            return inState(what - 1);
        }
        if (what >= 5 && what <= 9) {
            return totals[what];
        }
        int waiting = 0;
        for (Cell cell : cells) {
            waiting += cell.wishes.size();
        }
        int longest = 0;
        for (int[] span : spans()) {
            longest = Math.max(longest, span[1]);
        }
        return switch (what) {
            case 0 -> time;
            case 4 -> waiting;
            case 10 -> spans().size();
            case 11 -> longest;
            default -> saved.size();
        };
    }

    long setting(int setting) {
        return setting < 0 || setting > 3 ? INDEX : settings[setting];
    }

    long whoAfter(int n, int by) {
        if (noNumber(n)) {
            return INDEX;
        }
        if (by < 0 || by > 500) {
            return ARGUMENT;
        }
        PlainLeases then = copy();
        for (int k = 0; k < by; k++) {
            then.unit();
        }
        return then.cells[n].state == 0 ? -1 : then.cells[n].holder;
    }

    long freeIn(int many) {
        if (many < 1 || many > 64) {
            return ARGUMENT;
        }
        PlainLeases then = copy();
        for (int k = 0; k <= 500; k++) {
            if (then.inState(0) >= many) {
                return k;
            }
            then.unit();
        }
        return -1;
    }

    long wishedIn(int holder, int n) {
        if (noHolder(holder) || noNumber(n)) {
            return INDEX;
        }
        PlainLeases then = copy();
        boolean has = cells[n].state != 0 && cells[n].holder == holder;
        if (!has && then.wishIt(holder, n, 1) == STATE) {
            return -1;
        }
        for (int k = 0; k <= 500; k++) {
            if (then.cells[n].state != 0 && then.cells[n].holder == holder) {
                return k;
            }
            then.unit();
        }
        return -1;
    }

    long fullness() {
        return Float.floatToIntBits((float) (settings[3] - inState(0)) / (float) settings[3]);
    }

    long scatter() {
        return Float.floatToIntBits(inState(0) == 0 ? 0.0f : 1.0f - (float) count(11) / (float) count(1));
    }

    double meanHeld() {
        int units = 0;
        for (int holder = 0; holder < 8; holder++) {
            units += counted[2][holder];
        }
        return totals[5] == 0 ? 0.0 : (double) units / (double) totals[5];
    }

    long digest() {
        long hash = 2579;
        for (int what = 0; what <= 12; what++) {
            hash = 31 * hash + count(what);
        }
        for (int value : settings) {
            hash = 31 * hash + value;
        }
        for (int n = 0; n < settings[3]; n++) {
            for (int what = 0; what <= 8; what++) {
                hash = 31 * hash + number(n, what);
            }
        }
        for (int holder = 0; holder < 8; holder++) {
            for (int what = 0; what <= 7; what++) {
                hash = 31 * hash + holder(holder, what);
            }
            hash = 31 * hash + wishedIn(holder, 0);
        }
        for (int[] span : spans()) {
            hash = 31 * (31 * hash + span[0]) + span[1];
        }
        long[] rest = {whoAfter(0, 20), freeIn(4), fullness(), scatter(), Double.doubleToLongBits(meanHeld()),
            buffer.length()};
        for (long value : rest) {
            hash = 31 * hash + value;
        }
        for (char sign : buffer.toCharArray()) {
            hash = 31 * hash + sign;
        }
        return hash;
    }
}
