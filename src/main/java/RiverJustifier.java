/**
 * Justifies one paragraph: best breaks, second choices of lines, rivers of spaces.
 *
 * All rows are made once, in the constructor, and used again by every call.
 */
public final class RiverJustifier {
    public static final int UNKNOWN = -1001;
    public static final int BAD_VALUE = -1002;
    public static final int FULL = -1003;
    public static final int NONE = -1004;

    private static final int MOST_CHARACTERS = 120;
    // Between two words there is at least one blank, so 120 characters hold no more.
    private static final int MOST_WORDS = 60;
    private static final int KINDS = 3;
    private static final int WIDEST_SPACE = 40;
    private static final int LEAST_MEASURE = 10;
    private static final int GREATEST_MEASURE = 200;
    private static final int GREATEST_HANG = 100;
    private static final int GREATEST_TOLERANCE = 20;
    private static final int MOST_TAKEN = 10;
    private static final int SHORTEST_RIVER = 3;
    private static final int FAULT_BASE = -100;
    // Stands for a word, line, fault or sum of demerits that there is not.
    private static final int NOTHING = -1;

    private final Text text;
    private final Order order;
    private final Settings settings;
    private final Paragraph paragraph;
    private final LineRules rules;
    private final BestWay bestWay;
    private final Layout layout;
    // A second layout in which second choices are tried without touching the real one.
    private final Layout trial;

    public RiverJustifier() {
        Settings theSettings = new Settings();
        Paragraph theParagraph = new Paragraph();
        LineRules theRules = new LineRules(theParagraph, theSettings);
        BestWay theBestWay = new BestWay(theParagraph, theRules);
        text = new Text();
        order = new Order();
        settings = theSettings;
        paragraph = theParagraph;
        rules = theRules;
        bestWay = theBestWay;
        layout = new Layout(theParagraph, theSettings, theRules, theBestWay);
        trial = new Layout(theParagraph, theSettings, theRules, theBestWay);
    }

    public int type(char character) {
        return text.append(character);
    }

    public int clearText() {
        return text.empty();
    }

    public int readParagraph() {
        int fault = text.paragraphFault();
        if (fault != NOTHING) {
            return FAULT_BASE - fault;
        }
        paragraph.take(text);
        restoreBest();
        return paragraph.words;
    }

    public int command() {
        int fault = order.parse(text);
        if (fault != NOTHING) {
            return FAULT_BASE - fault;
        }
        order.applyTo(settings);
        return restoreBest();
    }

    public int setMeasure(int measure) {
        if (measure < LEAST_MEASURE || measure > GREATEST_MEASURE) {
            return BAD_VALUE;
        }
        int previous = settings.measure;
        settings.measure = measure;
        restoreBest();
        return previous;
    }

    public int setHang(int hang) {
        if (hang < 0 || hang > GREATEST_HANG) {
            return BAD_VALUE;
        }
        int previous = settings.hang;
        settings.hang = hang;
        restoreBest();
        return previous;
    }

    public int setTolerance(int tolerance) {
        if (tolerance < 0 || tolerance > GREATEST_TOLERANCE) {
            return BAD_VALUE;
        }
        int previous = settings.tolerance;
        settings.tolerance = tolerance;
        restoreBest();
        return previous;
    }

    public int setSpace(int kind, int least, int natural, int greatest) {
        if (!isKind(kind)) {
            return UNKNOWN;
        }
        if (least < 1 || natural < least || greatest < natural || greatest > WIDEST_SPACE) {
            return BAD_VALUE;
        }
        int previous = settings.natural[kind];
        settings.putWidths(kind, least, natural, greatest);
        restoreBest();
        return previous;
    }

    public int layBest() {
        layout.becomeBest();
        return layout.lines == 0 ? NONE : layout.lines;
    }

    public int takeSecond(int line) {
        if (!layout.hasLine(line)) {
            return UNKNOWN;
        }
        int last = layout.secondLast(line);
        if (last == NOTHING) {
            return NONE;
        }
        layout.endLineWith(line, last);
        return layout.lines;
    }

    public int breakRivers() {
        int taken = 0;
        while (taken < MOST_TAKEN) {
            int line = calmingLine();
            if (line == NOTHING) {
                break;
            }
            layout.endLineWith(line, layout.secondLast(line));
            taken++;
        }
        return taken;
    }

    public int count(int what) {
        switch (what) {
            case 0:
                return paragraph.words;
            case 1:
                return layout.lines;
            case 2:
                return layout.demerits;
            case 3:
                return bestWay.exists() ? bestWay.sums[0] : 0;
            case 4:
                return layout.rivers.amount;
            case 5:
                return layout.rivers.greatestLength;
            case 6:
                return layout.rivers.strength;
            case 7:
                return settings.measure;
            case 8:
                return settings.hang;
            case 9:
                return settings.tolerance;
            default:
                return BAD_VALUE;
        }
    }

    public int spaceWidth(int kind, int what) {
        if (!isKind(kind)) {
            return UNKNOWN;
        }
        switch (what) {
            case 0:
                return settings.least[kind];
            case 1:
                return settings.natural[kind];
            case 2:
                return settings.greatest[kind];
            default:
                return BAD_VALUE;
        }
    }

    public int word(int word, int what) {
        if (!paragraph.hasWord(word)) {
            return UNKNOWN;
        }
        switch (what) {
            case 0:
                return paragraph.widths[word];
            case 1:
                return paragraph.sizes[word];
            case 2:
                return paragraph.kinds[word];
            case 3:
                return layout.lines == 0 ? NONE : layout.lineOf[word];
            default:
                return BAD_VALUE;
        }
    }

    public int line(int line, int what) {
        if (!layout.hasLine(line)) {
            return UNKNOWN;
        }
        int first = layout.firstWord(line);
        int last = layout.lastWord(line);
        switch (what) {
            case 0:
                return first;
            case 1:
                return last;
            case 2:
                return rules.naturalWidth(first, last);
            case 3:
                return settings.measure - rules.naturalWidth(first, last);
            case 4:
                return rules.badness(first, last);
            case 5:
                return rules.demerits(first, last);
            case 6:
                return at(rules.leftHangs, first);
            case 7:
                return at(rules.rightHangs, last);
            case 8:
                return layout.endOf(last) - at(layout.begins, first)
                    - at(rules.leftHangs, first) - at(rules.rightHangs, last);
            default:
                return BAD_VALUE;
        }
    }

    public int space(int line, int space, int what) {
        if (!layout.hasLine(line)) {
            return UNKNOWN;
        }
        int first = layout.firstWord(line);
        if (space < 0 || space >= layout.lastWord(line) - first) {
            return UNKNOWN;
        }
        int before = first + space;
        switch (what) {
            case 0:
                return at(layout.spaceWidths, before);
            case 1:
                return layout.endOf(before);
            case 2:
                return at(paragraph.kinds, before);
            case 3:
                return at(layout.rivers.lengths, before);
            default:
                return BAD_VALUE;
        }
    }

    public int begin(int word) {
        if (!paragraph.hasWord(word)) {
            return UNKNOWN;
        }
        return layout.lines == 0 ? NONE : layout.begins[word];
    }

    public int second(int line, int what) {
        if (!layout.hasLine(line)) {
            return UNKNOWN;
        }
        if (what < 0 || what > 1) {
            return BAD_VALUE;
        }
        int last = layout.secondLast(line);
        if (last == NOTHING) {
            return NONE;
        }
        if (what == 0) {
            return last;
        }
        return layout.demeritsBefore(line) + bestWay.sumWith(layout.firstWord(line), last);
    }

    public int worst(int rank) {
        if (rank < 0) {
            return BAD_VALUE;
        }
        for (int line = 0; line < layout.lines; line++) {
            if (layout.linesWorseThan(line) == rank) {
                return line;
            }
        }
        return NONE;
    }

    public int river(int river, int step) {
        if (river < 0 || river >= layout.rivers.amount) {
            return UNKNOWN;
        }
        if (step < 0) {
            return BAD_VALUE;
        }
        int before = layout.rivers.spaceOf(river, step);
        if (before == NOTHING) {
            return NONE;
        }
        int line = at(layout.lineOf, before);
        return line * 100 + before - layout.firstWord(line);
    }

    /** Reads a row at an index that comes out of another row; 0 if the row has no such place. */
    private static int at(int[] row, int index) {
        return index >= 0 && index < row.length ? row[index] : 0;
    }

    private static boolean isKind(int kind) {
        return kind >= 0 && kind < KINDS;
    }

    /** Lays the best layout after a change; returns the number of its lines. */
    private int restoreBest() {
        rules.prepare();
        bestWay.find();
        layout.becomeBest();
        return layout.lines;
    }

    /** The line whose second choice weakens the rivers most, NOTHING if none weakens them. */
    private int calmingLine() {
        int found = NOTHING;
        int strength = layout.rivers.strength;
        int demerits = 0;
        for (int line = 0; line < layout.lines; line++) {
            int last = layout.secondLast(line);
            if (last == NOTHING) {
                continue;
            }
            trial.copyBreaks(layout);
            trial.endLineWith(line, last);
            int tried = trial.rivers.strength;
            boolean cheaper = found != NOTHING && tried == strength && trial.demerits < demerits;
            if (tried < strength || cheaper) {
                found = line;
                strength = tried;
                demerits = trial.demerits;
            }
        }
        return found;
    }

    /** What is known of single characters. */
    private static final class Sign {
        private Sign() {
        }

        /** The width, 0 for a character that no word may have. */
        static int widthOf(char sign) {
            if (sign >= 'a' && sign <= 'z') {
                return smallLetterWidth(sign);
            }
            if (sign >= 'A' && sign <= 'Z') {
                return capitalWidth(sign);
            }
            if (isDigit(sign)) {
                return 3;
            }
            if (isOneOf(sign, ".,;:!'")) {
                return 1;
            }
            return isOneOf(sign, "?-\"()") ? 2 : 0;
        }

        private static int smallLetterWidth(char sign) {
            if (isOneOf(sign, "fijlrt")) {
                return 2;
            }
            return isOneOf(sign, "mw") ? 4 : 3;
        }

        private static int capitalWidth(char sign) {
            if (sign == 'I') {
                return 2;
            }
            return isOneOf(sign, "MW") ? 5 : 4;
        }

        /** The class of a space behind a word that ends with the sign. */
        static int kindBehind(char sign) {
            if (isOneOf(sign, ".!?")) {
                return 2;
            }
            return isOneOf(sign, ",;:") ? 1 : 0;
        }

        static boolean hangsLeft(char sign) {
            return isOneOf(sign, "'\"(");
        }

        static boolean hangsRight(char sign) {
            return isOneOf(sign, ".,;:!?-'\"");
        }

        static boolean isDigit(char sign) {
            return sign >= '0' && sign <= '9';
        }

        private static boolean isOneOf(char sign, String signs) {
            return signs.indexOf(sign) >= 0;
        }
    }

    /** The text that is typed. */
    private static final class Text {
        final char[] signs;
        int length;

        Text() {
            signs = new char[MOST_CHARACTERS];
            length = 0;
        }

        int append(char sign) {
            if (length >= MOST_CHARACTERS) {
                return FULL;
            }
            signs[length] = sign;
            length++;
            return length;
        }

        int empty() {
            int previous = length;
            length = 0;
            return previous;
        }

        /** The index of the first character that a paragraph may not have, or NOTHING. */
        int paragraphFault() {
            for (int i = 0; i < length; i++) {
                if (signs[i] != ' ' && Sign.widthOf(signs[i]) == 0) {
                    return i;
                }
            }
            return NOTHING;
        }

        /** The index of the first blank from start on, or the length. */
        int endOfPiece(int start) {
            for (int i = start; i < length; i++) {
                if (signs[i] == ' ') {
                    return i;
                }
            }
            return length;
        }

        /** Is the piece from start to before end this name? */
        boolean isName(int start, int end, String name) {
            if (start < 0 || end > length || end - start != name.length()) {
                return false;
            }
            for (int i = start; i < end; i++) {
                if (signs[i] != name.charAt(i - start)) {
                    return false;
                }
            }
            return true;
        }

        /** The number of 1 to 3 digits from start to before end, or NOTHING. */
        int numberAt(int start, int end) {
            if (start < 0 || end > length || end - start < 1 || end - start > 3) {
                return NOTHING;
            }
            int number = 0;
            for (int i = start; i < end; i++) {
                if (!Sign.isDigit(signs[i])) {
                    return NOTHING;
                }
                number = number * 10 + (signs[i] - '0');
            }
            return number;
        }
    }

    /** A command: its text is parsed piece by piece, then it can be applied. */
    private static final class Order {
        private static final int MEASURE = 0;
        private static final int HANG = 1;
        private static final int RIVER = 2;
        private static final int SPACE = 3;
        private static final int MOST_PIECES = 5;
        private static final int MOST_NUMBERS = 3;

        private final int[] numbers;
        private int subject;
        private int kind;

        Order() {
            numbers = new int[MOST_NUMBERS];
            subject = NOTHING;
            kind = NOTHING;
        }

        /** Parses the text; returns its fault, or NOTHING. */
        int parse(Text text) {
            int start = 0;
            for (int piece = 0; piece < MOST_PIECES; piece++) {
                int end = text.endOfPiece(start);
                if (!takePiece(text, piece, start, end)) {
                    return start;
                }
                if (end >= text.length) {
                    return piece + 1 < wantedPieces() ? text.length : NOTHING;
                }
                start = end + 1;
            }
            // One piece too many begins here.
            return start;
        }

        void applyTo(Settings settings) {
            switch (subject) {
                case MEASURE:
                    settings.measure = numbers[0];
                    break;
                case HANG:
                    settings.hang = numbers[0];
                    break;
                case RIVER:
                    settings.tolerance = numbers[0];
                    break;
                case SPACE:
                    settings.putWidths(kind, numbers[0], numbers[1], numbers[2]);
                    break;
                default:
                    break;
            }
        }

        private int wantedPieces() {
            return subject == SPACE ? 5 : 2;
        }

        /** Takes one piece; an empty one is no name and no number, so it is wrong, too. */
        private boolean takePiece(Text text, int piece, int start, int end) {
            if (piece == 0) {
                subject = subjectAt(text, start, end);
                return subject != NOTHING;
            }
            if (piece >= wantedPieces()) {
                return false;
            }
            if (subject != SPACE) {
                return takeNumber(0, text.numberAt(start, end));
            }
            if (piece == 1) {
                kind = kindAt(text, start, end);
                return kind != NOTHING;
            }
            return takeNumber(piece - 2, text.numberAt(start, end));
        }

        private boolean takeNumber(int index, int number) {
            if (index < 0 || index >= MOST_NUMBERS) {
                return false;
            }
            if (number < leastNumber(index) || number > greatestNumber()) {
                return false;
            }
            numbers[index] = number;
            return true;
        }

        private int leastNumber(int index) {
            if (subject == SPACE) {
                return index == 0 ? 1 : at(numbers, index - 1);
            }
            return subject == MEASURE ? LEAST_MEASURE : 0;
        }

        private int greatestNumber() {
            switch (subject) {
                case MEASURE:
                    return GREATEST_MEASURE;
                case HANG:
                    return GREATEST_HANG;
                case RIVER:
                    return GREATEST_TOLERANCE;
                default:
                    return WIDEST_SPACE;
            }
        }

        private static int subjectAt(Text text, int start, int end) {
            if (text.isName(start, end, "measure")) {
                return MEASURE;
            }
            if (text.isName(start, end, "hang")) {
                return HANG;
            }
            if (text.isName(start, end, "river")) {
                return RIVER;
            }
            return text.isName(start, end, "space") ? SPACE : NOTHING;
        }

        private static int kindAt(Text text, int start, int end) {
            if (text.isName(start, end, "word")) {
                return 0;
            }
            if (text.isName(start, end, "clause")) {
                return 1;
            }
            return text.isName(start, end, "sentence") ? 2 : NOTHING;
        }
    }

    /** The measure, the hang, the tolerance and the widths of the classes of spaces. */
    private static final class Settings {
        int measure;
        int hang;
        int tolerance;
        final int[] least;
        final int[] natural;
        final int[] greatest;

        Settings() {
            measure = 60;
            hang = 50;
            tolerance = 2;
            least = new int[] {2, 2, 3};
            natural = new int[] {3, 4, 5};
            greatest = new int[] {6, 8, 10};
        }

        void putWidths(int kind, int newLeast, int newNatural, int newGreatest) {
            if (!isKind(kind)) {
                return;
            }
            least[kind] = newLeast;
            natural[kind] = newNatural;
            greatest[kind] = newGreatest;
        }
    }

    /** The words of the paragraph. */
    private static final class Paragraph {
        int words;
        final int[] widths;
        final int[] sizes;
        final int[] kinds;
        // The width of the first (last) character if it is one that hangs, otherwise 0.
        final int[] leftMarks;
        final int[] rightMarks;

        Paragraph() {
            words = 0;
            widths = new int[MOST_WORDS];
            sizes = new int[MOST_WORDS];
            kinds = new int[MOST_WORDS];
            leftMarks = new int[MOST_WORDS];
            rightMarks = new int[MOST_WORDS];
        }

        boolean hasWord(int word) {
            return word >= 0 && word < words;
        }

        void take(Text text) {
            words = 0;
            boolean inside = false;
            for (int i = 0; i < text.length; i++) {
                char sign = text.signs[i];
                boolean blank = sign == ' ';
                if (!blank && !inside) {
                    openWord(sign);
                }
                if (!blank) {
                    lengthenWord(sign);
                }
                inside = !blank;
            }
        }

        private void openWord(char sign) {
            if (words >= MOST_WORDS) {
                return;
            }
            widths[words] = 0;
            sizes[words] = 0;
            leftMarks[words] = Sign.hangsLeft(sign) ? Sign.widthOf(sign) : 0;
            words++;
        }

        private void lengthenWord(char sign) {
            int word = words - 1;
            if (word < 0) {
                return;
            }
            int width = Sign.widthOf(sign);
            widths[word] += width;
            sizes[word]++;
            kinds[word] = Sign.kindBehind(sign);
            rightMarks[word] = Sign.hangsRight(sign) ? width : 0;
        }
    }

    /** Widths, badness and demerits of any line that could be made of neighbouring words. */
    private static final class LineRules {
        private final Paragraph paragraph;
        private final Settings settings;
        // Sums over all words before a word, and over the spaces behind them:
        // with them a line's widths are differences, however long it is.
        private final int[] wordSums;
        private final int[] naturalSums;
        private final int[] stretchSums;
        private final int[] shrinkSums;
        final int[] leftHangs;
        final int[] rightHangs;

        LineRules(Paragraph theParagraph, Settings theSettings) {
            paragraph = theParagraph;
            settings = theSettings;
            wordSums = new int[MOST_WORDS + 1];
            naturalSums = new int[MOST_WORDS + 1];
            stretchSums = new int[MOST_WORDS + 1];
            shrinkSums = new int[MOST_WORDS + 1];
            leftHangs = new int[MOST_WORDS];
            rightHangs = new int[MOST_WORDS];
        }

        void prepare() {
            for (int word = 0; word < paragraph.words; word++) {
                int kind = paragraph.kinds[word];
                int natural = at(settings.natural, kind);
                int stretch = at(settings.greatest, kind) - natural;
                int shrink = natural - at(settings.least, kind);
                wordSums[word + 1] = wordSums[word] + paragraph.widths[word];
                naturalSums[word + 1] = naturalSums[word] + natural;
                stretchSums[word + 1] = stretchSums[word] + stretch;
                shrinkSums[word + 1] = shrinkSums[word] + shrink;
                leftHangs[word] = paragraph.leftMarks[word] * settings.hang / 100;
                rightHangs[word] = paragraph.rightMarks[word] * settings.hang / 100;
            }
        }

        boolean isEnd(int last) {
            return last == paragraph.words - 1;
        }

        int naturalWidth(int first, int last) {
            if (first < 0 || last < first || last >= MOST_WORDS) {
                return 0;
            }
            int words = wordSums[last + 1] - wordSums[first];
            int spaces = naturalSums[last] - naturalSums[first];
            return words + spaces - leftHangs[first] - rightHangs[last];
        }

        /** The badness of a line, NOTHING if the line is not possible. */
        int badness(int first, int last) {
            int difference = settings.measure - naturalWidth(first, last);
            if (difference == 0 || (difference > 0 && isEnd(last))) {
                return 0;
            }
            int[] sums = difference > 0 ? stretchSums : shrinkSums;
            int room = at(sums, last) - at(sums, first);
            if (room < 1 || room < Math.abs(difference)) {
                return NOTHING;
            }
            return 100 * difference * difference / (room * room);
        }

        /** The demerits of a line, NOTHING if the line is not possible. */
        int demerits(int first, int last) {
            int badness = badness(first, last);
            if (badness == NOTHING) {
                return NOTHING;
            }
            boolean shortEnd = !isEnd(last) && at(paragraph.sizes, last) <= 2;
            return (10 + badness) * (10 + badness) + (shortEnd ? 100 : 0);
        }
    }

    /** The best way to go on from each word to the end of the paragraph. */
    private static final class BestWay {
        private final Paragraph paragraph;
        private final LineRules rules;
        // The least demerits of all lines from a word on, NOTHING if there is no way.
        final int[] sums;
        // The last word of the first of these lines.
        final int[] lasts;

        BestWay(Paragraph theParagraph, LineRules theRules) {
            paragraph = theParagraph;
            rules = theRules;
            sums = new int[MOST_WORDS + 1];
            lasts = new int[MOST_WORDS];
        }

        boolean exists() {
            return paragraph.words > 0 && sums[0] != NOTHING;
        }

        void find() {
            sums[paragraph.words] = 0;
            for (int first = paragraph.words - 1; first >= 0; first--) {
                sums[first] = NOTHING;
                lasts[first] = NOTHING;
                for (int last = first; last < paragraph.words; last++) {
                    int sum = sumWith(first, last);
                    // Of equal sums the later one stands: more words come first.
                    if (sum != NOTHING && (sums[first] == NOTHING || sum <= sums[first])) {
                        sums[first] = sum;
                        lasts[first] = last;
                    }
                }
            }
        }

        /** The demerits of this line and the best ones behind it, NOTHING if there is no way. */
        int sumWith(int first, int last) {
            int behind = at(sums, last + 1);
            if (behind == NOTHING) {
                return NOTHING;
            }
            int own = rules.demerits(first, last);
            return own == NOTHING ? NOTHING : own + behind;
        }
    }

    /** Lines, and where their words and spaces stand; a space has the number of the word before it. */
    private static final class Layout {
        private final Paragraph paragraph;
        private final Settings settings;
        private final LineRules rules;
        private final BestWay bestWay;
        int lines;
        int demerits;
        // One more than lines: behind the last line stands the number of words.
        final int[] firstWords;
        final int[] lineOf;
        // The line of the space behind a word, NOTHING behind the last word of a line.
        final int[] spaceLines;
        final int[] begins;
        final int[] spaceWidths;
        final Rivers rivers;

        Layout(Paragraph theParagraph, Settings theSettings, LineRules theRules, BestWay theBestWay) {
            paragraph = theParagraph;
            settings = theSettings;
            rules = theRules;
            bestWay = theBestWay;
            lines = 0;
            demerits = 0;
            firstWords = new int[MOST_WORDS + 1];
            lineOf = new int[MOST_WORDS];
            spaceLines = new int[MOST_WORDS];
            begins = new int[MOST_WORDS];
            spaceWidths = new int[MOST_WORDS];
            rivers = new Rivers();
        }

        boolean hasLine(int line) {
            return line >= 0 && line < lines;
        }

        int firstWord(int line) {
            return hasLine(line) ? firstWords[line] : NOTHING;
        }

        int lastWord(int line) {
            return hasLine(line) ? firstWords[line + 1] - 1 : NOTHING;
        }

        int endOf(int word) {
            return at(begins, word) + at(paragraph.widths, word);
        }

        int demeritsBefore(int line) {
            int sum = 0;
            for (int i = 0; i < line && i < lines; i++) {
                sum += rules.demerits(firstWord(i), lastWord(i));
            }
            return sum;
        }

        /** The number of lines that come before this one in the order of badness. */
        int linesWorseThan(int line) {
            int badness = rules.badness(firstWord(line), lastWord(line));
            int worse = 0;
            for (int i = 0; i < lines; i++) {
                int other = rules.badness(firstWord(i), lastWord(i));
                if (other > badness || (other == badness && i < line)) {
                    worse++;
                }
            }
            return worse;
        }

        /** The last word of a line with its second choice, NOTHING if it has none. */
        int secondLast(int line) {
            if (!hasLine(line)) {
                return NOTHING;
            }
            int first = firstWord(line);
            int present = lastWord(line);
            int found = NOTHING;
            int least = 0;
            for (int last = first; last < paragraph.words; last++) {
                int sum = last == present ? NOTHING : bestWay.sumWith(first, last);
                if (sum != NOTHING && (found == NOTHING || sum <= least)) {
                    found = last;
                    least = sum;
                }
            }
            return found;
        }

        void becomeBest() {
            lines = 0;
            if (bestWay.exists()) {
                goOnFrom(0);
            }
            settle();
        }

        void copyBreaks(Layout other) {
            lines = other.lines;
            for (int line = 0; line <= MOST_WORDS; line++) {
                firstWords[line] = other.firstWords[line];
            }
        }

        /** Ends a line with this word and goes on behind it in the best way. */
        void endLineWith(int line, int last) {
            if (!hasLine(line) || !paragraph.hasWord(last)) {
                return;
            }
            lines = line + 1;
            goOnFrom(last + 1);
            settle();
        }

        /** Adds the best lines from this word on. */
        private void goOnFrom(int word) {
            int next = word;
            while (next < paragraph.words && lines < MOST_WORDS) {
                firstWords[lines] = next;
                next = at(bestWay.lasts, next) + 1;
                lines++;
            }
            firstWords[lines] = paragraph.words;
        }

        private void settle() {
            demerits = 0;
            for (int line = 0; line < lines; line++) {
                int first = firstWord(line);
                int last = lastWord(line);
                if (paragraph.hasWord(first) && paragraph.hasWord(last)) {
                    demerits += rules.demerits(first, last);
                    shareOut(first, last);
                    placeWords(line, first, last);
                }
            }
            rivers.find(this, paragraph.words, settings.tolerance);
        }

        /** Makes the spaces of a line wider or narrower. */
        private void shareOut(int first, int last) {
            for (int word = first; word < last; word++) {
                spaceWidths[word] = at(settings.natural, paragraph.kinds[word]);
            }
            int difference = settings.measure - rules.naturalWidth(first, last);
            if (difference > 0 && rules.isEnd(last)) {
                return;
            }
            int step = difference > 0 ? 1 : -1;
            int units = Math.abs(difference);
            for (int round = 0; round < WIDEST_SPACE && units > 0; round++) {
                units = changeKind(first, last, step > 0 ? 2 : 1, step, units);
                units = changeKind(first, last, step > 0 ? 1 : 2, step, units);
                units = changeKind(first, last, 0, step, units);
            }
        }

        /** Changes each space of a class once while there are units; returns what is left of them. */
        private int changeKind(int first, int last, int kind, int step, int units) {
            int limit = at(step > 0 ? settings.greatest : settings.least, kind);
            int left = units;
            for (int word = first; word < last && left > 0; word++) {
                if (paragraph.kinds[word] == kind && spaceWidths[word] != limit) {
                    spaceWidths[word] += step;
                    left--;
                }
            }
            return left;
        }

        private void placeWords(int line, int first, int last) {
            int begin = -rules.leftHangs[first];
            for (int word = first; word <= last; word++) {
                lineOf[word] = line;
                spaceLines[word] = word < last ? line : NOTHING;
                begins[word] = begin;
                begin = endOf(word) + (word < last ? spaceWidths[word] : 0);
            }
        }
    }

    /** The rivers of a layout; a space has the number of the word before it. */
    private static final class Rivers {
        int amount;
        int strength;
        int greatestLength;
        final int[] lengths;
        private final int[] middles;
        // The space to which a river goes upwards from a space, NOTHING if none is near.
        private final int[] aboves;
        // Is a space of the line below near?
        private final boolean[] goesOn;
        private final int[] ends;

        Rivers() {
            amount = 0;
            strength = 0;
            greatestLength = 0;
            lengths = new int[MOST_WORDS];
            middles = new int[MOST_WORDS];
            aboves = new int[MOST_WORDS];
            goesOn = new boolean[MOST_WORDS];
            ends = new int[MOST_WORDS];
        }

        /** The space of a river, NOTHING if the river is not so long. */
        int spaceOf(int river, int step) {
            int space = at(ends, river);
            if (step >= at(lengths, space)) {
                return NOTHING;
            }
            for (int i = 0; i < step && space != NOTHING; i++) {
                space = at(aboves, space);
            }
            return space;
        }

        void find(Layout layout, int words, int tolerance) {
            amount = 0;
            strength = 0;
            greatestLength = 0;
            if (layout.lines == 0) {
                return;
            }
            for (int space = 0; space < words - 1; space++) {
                middles[space] = 2 * layout.endOf(space) + layout.spaceWidths[space];
                goesOn[space] = false;
                if (layout.spaceLines[space] != NOTHING) {
                    aboves[space] = spaceAbove(layout, space, 2 * tolerance);
                    lengths[space] = aboves[space] == NOTHING ? 1 : at(lengths, aboves[space]) + 1;
                    greatestLength = Math.max(greatestLength, lengths[space]);
                }
            }
            collectEnds(layout, words);
        }

        /** Of the near spaces of the line above, the leftmost one with the greatest length. */
        private int spaceAbove(Layout layout, int space, int farthest) {
            int line = at(layout.lineOf, space) - 1;
            if (line < 0) {
                return NOTHING;
            }
            int middle = at(middles, space);
            int found = NOTHING;
            for (int above = Math.min(space, MOST_WORDS) - 1; above >= 0 && layout.lineOf[above] >= line; above--) {
                boolean near = Math.abs(middles[above] - middle) <= farthest;
                if (!near || layout.spaceLines[above] != line) {
                    continue;
                }
                goesOn[above] = true;
                // It goes from right to left, so of equal lengths the later one stands.
                if (found == NOTHING || lengths[above] >= at(lengths, found)) {
                    found = above;
                }
            }
            return found;
        }

        private void collectEnds(Layout layout, int words) {
            for (int space = 0; space < words - 1; space++) {
                boolean last = lengths[space] >= SHORTEST_RIVER && !goesOn[space];
                if (last && layout.spaceLines[space] != NOTHING) {
                    ends[amount] = space;
                    amount++;
                    strength += lengths[space] - (SHORTEST_RIVER - 1);
                }
            }
        }
    }
}
