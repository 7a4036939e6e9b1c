import java.util.ArrayList;
import java.util.Arrays;
import java.util.HashMap;
import java.util.List;
import java.util.Map;

/**
 * The document once more, as literally as it can be said and in another way than in the class:
 * a layout is a list of numbers of words, and every answer is worked out anew from the words.
 */
final class Model {
    static final int UNKNOWN = -1001;
    static final int BAD_VALUE = -1002;
    static final int FULL = -1003;
    static final int NONE = -1004;

    private String text = "";
    private List<String> words = new ArrayList<>();
    private int measure = 60;
    private int hang = 50;
    private int tolerance = 2;
    private final int[][] widths = {{2, 3, 6}, {2, 4, 8}, {3, 5, 10}};
    private List<Integer> layout = null;
    private final Map<Integer, List<Integer>> bestFrom = new HashMap<>();
    // Lengths of spaces are kept while the layout stands: long rivers would take too long without.
    private final Map<Integer, Integer> lengths = new HashMap<>();

    int type(char character) {
        if (text.length() == 120) {
            return FULL;
        }
        text += character;
        return text.length();
    }

    int clearText() {
        int length = text.length();
        text = "";
        return length;
    }

    int readParagraph() {
        for (int i = 0; i < text.length(); i++) {
            if (!String.valueOf(text.charAt(i)).matches("[a-zA-Z0-9.,;:!?'\"() -]")) {
                return -100 - i;
            }
        }
        words = new ArrayList<>();
        for (String piece : text.split(" ")) {
            if (!piece.isEmpty()) {
                words.add(piece);
            }
        }
        changed();
        return words.size();
    }

    int command() {
        String[] pieces = text.split(" ", -1);
        int start = 0;
        int[] numbers = new int[6];
        for (int i = 0; i < pieces.length; i++) {
            String piece = pieces[i];
            boolean right;
            boolean space = pieces[0].equals("space");
            if (i == 0) {
                right = List.of("measure", "hang", "river", "space").contains(piece);
            } else if (space && i == 1) {
                right = List.of("word", "clause", "sentence").contains(piece);
            } else if (i > (space ? 4 : 1)) {
                right = false;
            } else {
                right = piece.matches("[0-9]{1,3}");
                if (right) {
                    numbers[i] = Integer.parseInt(piece);
                    int low = space ? Math.max(1, numbers[i - 1]) : pieces[0].equals("measure") ? 10 : 0;
                    int high = space ? 40 : pieces[0].equals("measure") ? 200
                        : pieces[0].equals("hang") ? 100 : 20;
                    right = numbers[i] >= low && numbers[i] <= high;
                }
            }
            if (!right) {
                return -100 - start;
            }
            start += piece.length() + 1;
        }
        if (pieces.length < (pieces[0].equals("space") ? 5 : 2)) {
            return -100 - text.length();
        }
        switch (pieces[0]) {
            case "measure" -> measure = numbers[1];
            case "hang" -> hang = numbers[1];
            case "river" -> tolerance = numbers[1];
            default -> widths[List.of("word", "clause", "sentence").indexOf(pieces[1])] =
                new int[] {numbers[2], numbers[3], numbers[4]};
        }
        changed();
        return lines();
    }

    int setMeasure(int value) {
        if (value < 10 || value > 200) {
            return BAD_VALUE;
        }
        int previous = measure;
        measure = value;
        changed();
        return previous;
    }

    int setHang(int value) {
        if (value < 0 || value > 100) {
            return BAD_VALUE;
        }
        int previous = hang;
        hang = value;
        changed();
        return previous;
    }

    int setTolerance(int value) {
        if (value < 0 || value > 20) {
            return BAD_VALUE;
        }
        int previous = tolerance;
        tolerance = value;
        changed();
        return previous;
    }

    int setSpace(int kind, int least, int natural, int greatest) {
        if (kind < 0 || kind > 2) {
            return UNKNOWN;
        }
        for (int width : new int[] {least, natural, greatest}) {
            if (width < 1 || width > 40) {
                return BAD_VALUE;
            }
        }
        if (least > natural || natural > greatest) {
            return BAD_VALUE;
        }
        int previous = widths[kind][1];
        widths[kind] = new int[] {least, natural, greatest};
        changed();
        return previous;
    }

    int layBest() {
        lay(best());
        return layout == null ? NONE : layout.size();
    }

    int takeSecond(int line) {
        if (line < 0 || line >= lines()) {
            return UNKNOWN;
        }
        List<Integer> other = secondOf(line);
        if (other == null) {
            return NONE;
        }
        lay(other);
        return lines();
    }

    int breakRivers() {
        int taken = 0;
        for (; taken < 10; taken++) {
            List<Integer> now = layout;
            List<Integer> found = null;
            int[] foundMarks = null;
            for (int line = 0; line < lines(); line++) {
                List<Integer> other = secondOf(line);
                if (other == null) {
                    continue;
                }
                lay(other);
                int[] marks = {count(6), count(2), line};
                lay(now);
                if (found == null || Arrays.compare(marks, foundMarks) < 0) {
                    found = other;
                    foundMarks = marks;
                }
            }
            if (found == null || foundMarks[0] >= count(6)) {
                break;
            }
            lay(found);
        }
        return taken;
    }

    int count(int what) {
        List<int[]> ends = riverEnds();
        switch (what) {
            case 0: return words.size();
            case 1: return lines();
            case 2: return layout == null ? 0 : sumOf(layout, 0);
            case 3: return best() == null ? 0 : sumOf(best(), 0);
            case 4: return ends.size();
            case 5: {
                int greatest = 0;
                for (int line = 0; line < lines(); line++) {
                    for (int space = 0; space < layout.get(line) - 1; space++) {
                        greatest = Math.max(greatest, lengthOf(line, space));
                    }
                }
                return greatest;
            }
            case 6: return ends.stream().mapToInt(end -> lengthOf(end[0], end[1]) - 2).sum();
            case 7: return measure;
            case 8: return hang;
            case 9: return tolerance;
            default: return BAD_VALUE;
        }
    }

    int spaceWidth(int kind, int what) {
        return kind < 0 || kind > 2 ? UNKNOWN : what < 0 || what > 2 ? BAD_VALUE : widths[kind][what];
    }

    int word(int word, int what) {
        if (word < 0 || word >= words.size()) {
            return UNKNOWN;
        }
        switch (what) {
            case 0: return widthOf(words.get(word));
            case 1: return words.get(word).length();
            case 2: return kindOf(words.get(word));
            case 3: {
                for (int line = 0; line < lines(); line++) {
                    if (word < firstOf(line) + layout.get(line)) {
                        return line;
                    }
                }
                return NONE;
            }
            default: return BAD_VALUE;
        }
    }

    int line(int line, int what) {
        if (line < 0 || line >= lines()) {
            return UNKNOWN;
        }
        List<String> own = wordsOf(line);
        boolean end = line == lines() - 1;
        switch (what) {
            case 0: return firstOf(line);
            case 1: return firstOf(line) + layout.get(line) - 1;
            case 2: return naturalOf(own);
            case 3: return measure - naturalOf(own);
            case 4: return badnessOf(own, end);
            case 5: return demeritsOf(own, end);
            case 6: return leftOf(own);
            case 7: return rightOf(own);
            case 8: {
                int width = -leftOf(own) - rightOf(own);
                for (String word : own) {
                    width += widthOf(word);
                }
                for (int spaceWidth : spacesOf(own, end)) {
                    width += spaceWidth;
                }
                return width;
            }
            default: return BAD_VALUE;
        }
    }

    int space(int line, int space, int what) {
        if (line < 0 || line >= lines() || space < 0 || space >= layout.get(line) - 1) {
            return UNKNOWN;
        }
        List<String> own = wordsOf(line);
        switch (what) {
            case 0: return spacesOf(own, line == lines() - 1)[space];
            case 1: return begin(firstOf(line) + space) + widthOf(own.get(space));
            case 2: return kindOf(own.get(space));
            case 3: return lengthOf(line, space);
            default: return BAD_VALUE;
        }
    }

    int begin(int word) {
        int line = word(word, 3);
        if (line < 0) {
            return line;
        }
        List<String> own = wordsOf(line);
        int[] spaces = spacesOf(own, line == lines() - 1);
        int begin = -leftOf(own);
        for (int i = 0; i < word - firstOf(line); i++) {
            begin += widthOf(own.get(i)) + spaces[i];
        }
        return begin;
    }

    int second(int line, int what) {
        if (line < 0 || line >= lines()) {
            return UNKNOWN;
        }
        if (what != 0 && what != 1) {
            return BAD_VALUE;
        }
        List<Integer> other = secondOf(line);
        if (other == null) {
            return NONE;
        }
        return what == 0 ? firstOf(line) + other.get(line) - 1 : sumOf(other, 0);
    }

    int worst(int rank) {
        if (rank < 0) {
            return BAD_VALUE;
        }
        List<Integer> order = new ArrayList<>();
        for (int line = 0; line < lines(); line++) {
            order.add(line);
        }
        order.sort((a, b) -> line(b, 4) - line(a, 4));
        return rank < order.size() ? order.get(rank) : NONE;
    }

    int river(int river, int step) {
        List<int[]> ends = riverEnds();
        if (river < 0 || river >= ends.size()) {
            return UNKNOWN;
        }
        if (step < 0) {
            return BAD_VALUE;
        }
        int line = ends.get(river)[0];
        int space = ends.get(river)[1];
        if (step >= lengthOf(line, space)) {
            return NONE;
        }
        for (int i = 0; i < step; i++) {
            int found = -1;
            for (int above : nearOf(line, space, line - 1)) {
                if (found < 0 || lengthOf(line - 1, above) > lengthOf(line - 1, found)) {
                    found = above;
                }
            }
            line--;
            space = found;
        }
        return line * 100 + space;
    }

    private void changed() {
        bestFrom.clear();
        lay(best());
    }

    private void lay(List<Integer> numbers) {
        lengths.clear();
        layout = numbers;
    }

    private int lines() {
        return layout == null ? 0 : layout.size();
    }

    private int firstOf(int line) {
        int first = 0;
        for (int i = 0; i < line; i++) {
            first += layout.get(i);
        }
        return first;
    }

    private List<String> wordsOf(int line) {
        return words.subList(firstOf(line), firstOf(line) + layout.get(line));
    }

    private static boolean isOneOf(char sign, String signs) {
        return signs.indexOf(sign) >= 0;
    }

    private static int widthOf(String word) {
        int width = 0;
        for (char sign : word.toCharArray()) {
            if (isOneOf(sign, ".,;:!'")) {
                width += 1;
            } else if (isOneOf(sign, "fijlrtI?-\"()")) {
                width += 2;
            } else if (isOneOf(sign, "mwABCDEFGHJKLNOPQRSTUVXYZ")) {
                width += 4;
            } else {
                width += isOneOf(sign, "MW") ? 5 : 3;
            }
        }
        return width;
    }

    private static int kindOf(String word) {
        char sign = word.charAt(word.length() - 1);
        return isOneOf(sign, ".!?") ? 2 : isOneOf(sign, ",;:") ? 1 : 0;
    }

    private int leftOf(List<String> own) {
        String sign = own.get(0).substring(0, 1);
        return isOneOf(sign.charAt(0), "'\"(") ? widthOf(sign) * hang / 100 : 0;
    }

    private int rightOf(List<String> own) {
        String word = own.get(own.size() - 1);
        String sign = word.substring(word.length() - 1);
        return isOneOf(sign.charAt(0), ".,;:!?-'\"") ? widthOf(sign) * hang / 100 : 0;
    }

    private int naturalOf(List<String> own) {
        int width = -leftOf(own) - rightOf(own);
        for (int i = 0; i < own.size(); i++) {
            width += widthOf(own.get(i));
            if (i > 0) {
                width += widths[kindOf(own.get(i - 1))][1];
            }
        }
        return width;
    }

    /** How far the spaces of a line can change to make up for D. */
    private int roomOf(List<String> own, int d) {
        int room = 0;
        for (int i = 0; i < own.size() - 1; i++) {
            int[] width = widths[kindOf(own.get(i))];
            room += d > 0 ? width[2] - width[1] : width[1] - width[0];
        }
        return room;
    }

    private boolean isPossible(List<String> own, boolean end) {
        int d = measure - naturalOf(own);
        return d > 0 && end || Math.abs(d) <= roomOf(own, d);
    }

    private int badnessOf(List<String> own, boolean end) {
        int d = measure - naturalOf(own);
        if (d == 0 || d > 0 && end) {
            return 0;
        }
        int room = roomOf(own, d);
        return 100 * d * d / (room * room);
    }

    private int demeritsOf(List<String> own, boolean end) {
        int badness = badnessOf(own, end);
        int penalty = !end && own.get(own.size() - 1).length() <= 2 ? 100 : 0;
        return (10 + badness) * (10 + badness) + penalty;
    }

    /** The demerits of lines with these numbers of words, from a word on. */
    private int sumOf(List<Integer> numbers, int from) {
        int sum = 0;
        int first = from;
        for (int number : numbers) {
            int behind = first + number;
            sum += demeritsOf(words.subList(first, behind), behind == words.size());
            first = behind;
        }
        return sum;
    }

    private List<Integer> best() {
        return words.isEmpty() ? null : bestFrom(0);
    }

    /** Looks at every number of words for the next line, the greatest first. */
    private List<Integer> bestFrom(int first) {
        if (first == words.size()) {
            return new ArrayList<>();
        }
        if (bestFrom.containsKey(first)) {
            return bestFrom.get(first);
        }
        List<Integer> found = null;
        for (int number = words.size() - first; number >= 1; number--) {
            List<Integer> way = wayWith(first, number);
            if (way != null && (found == null || sumOf(way, first) < sumOf(found, first))) {
                found = way;
            }
        }
        bestFrom.put(first, found);
        return found;
    }

    private List<Integer> wayWith(int first, int number) {
        int behind = first + number;
        if (!isPossible(words.subList(first, behind), behind == words.size())) {
            return null;
        }
        List<Integer> rest = bestFrom(behind);
        if (rest == null) {
            return null;
        }
        List<Integer> way = new ArrayList<>();
        way.add(number);
        way.addAll(rest);
        return way;
    }

    /** The layout with the second choice of a line, null if there is none. */
    private List<Integer> secondOf(int line) {
        int first = firstOf(line);
        List<Integer> found = null;
        for (int number = words.size() - first; number >= 1; number--) {
            if (number == layout.get(line)) {
                continue;
            }
            List<Integer> way = wayWith(first, number);
            if (way != null && (found == null || sumOf(way, first) < sumOf(found, first))) {
                found = way;
            }
        }
        if (found == null) {
            return null;
        }
        List<Integer> whole = new ArrayList<>(layout.subList(0, line));
        whole.addAll(found);
        return whole;
    }

    private int[] spacesOf(List<String> own, boolean end) {
        int[] spaces = new int[own.size() - 1];
        for (int i = 0; i < spaces.length; i++) {
            spaces[i] = widths[kindOf(own.get(i))][1];
        }
        int d = measure - naturalOf(own);
        if (end && d > 0) {
            return spaces;
        }
        int left = Math.abs(d);
        int[] order = d > 0 ? new int[] {2, 1, 0} : new int[] {1, 2, 0};
        while (left > 0) {
            for (int kind : order) {
                for (int i = 0; i < spaces.length; i++) {
                    int limit = widths[kind][d > 0 ? 2 : 0];
                    if (left > 0 && kindOf(own.get(i)) == kind && spaces[i] != limit) {
                        spaces[i] += d > 0 ? 1 : -1;
                        left--;
                    }
                }
            }
        }
        return spaces;
    }

    private int middleOf(int line, int space) {
        return 2 * space(line, space, 1) + space(line, space, 0);
    }

    /** The spaces of another line that are near a space. */
    private List<Integer> nearOf(int line, int space, int other) {
        List<Integer> near = new ArrayList<>();
        if (other < 0 || other >= lines()) {
            return near;
        }
        for (int i = 0; i < layout.get(other) - 1; i++) {
            if (Math.abs(middleOf(other, i) - middleOf(line, space)) <= 2 * tolerance) {
                near.add(i);
            }
        }
        return near;
    }

    private int lengthOf(int line, int space) {
        Integer known = lengths.get(line * 100 + space);
        if (known != null) {
            return known;
        }
        int greatest = 0;
        for (int above : nearOf(line, space, line - 1)) {
            greatest = Math.max(greatest, lengthOf(line - 1, above));
        }
        lengths.put(line * 100 + space, greatest + 1);
        return greatest + 1;
    }

    private List<int[]> riverEnds() {
        List<int[]> ends = new ArrayList<>();
        for (int line = 0; line < lines(); line++) {
            for (int space = 0; space < layout.get(line) - 1; space++) {
                if (lengthOf(line, space) >= 3 && nearOf(line, space, line + 1).isEmpty()) {
                    ends.add(new int[] {line, space});
                }
            }
        }
        return ends;
    }
}
