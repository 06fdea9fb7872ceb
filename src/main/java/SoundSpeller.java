/**
 * A converter for a reformed spelling: rules turn letters into sounds, signs
 * write the sounds anew, and a book holds words that are kept or marked.
 *
 * Every row is made in a constructor and used again, so that no call makes
 * an object.
 */
public final class SoundSpeller {
    /** There is no such rule, word or sound. */
    public static final int UNKNOWN = -1;
    /** Another argument is out of range. */
    public static final int BAD_VALUE = -2;
    /** There is no more room. */
    public static final int FULL = -3;
    /** This is not possible. */
    public static final int NOT_POSSIBLE = -4;
    /** There is no such thing; not an error. */
    public static final int NONE = -5;

    private static final int FAULT = -100;

    private static final int MOST_RULES = 30;
    private static final int MOST_WORDS = 20;
    private static final int MOST_STATES = 4;
    private static final int MOST_TYPED = 60;
    // Thirty words of one letter may each come back as one of twelve.
    private static final int MOST_CONVERTED = 400;
    private static final int RULE_LETTERS = 4;
    private static final int WORD_LETTERS = 12;
    private static final int SIGN_LETTERS = 2;
    private static final int NEW_LETTERS = 24;
    private static final int ALPHABET = 26;

    private static final int NO_SOUND = 0;

    private static final int NO_SIDE = 0;
    private static final int AT_BEGINNING = 1;
    private static final int AT_END = 2;
    private static final int AHEAD_OF_VOWEL = 3;
    private static final int AHEAD_OF_NO_VOWEL = 4;
    private static final int BEHIND_VOWEL = 5;

    private static final int PLAIN = 0;
    private static final int KEPT = 1;
    private static final int MARKED = 2;

    private static final int RULE_ENTRY = 0;
    private static final int WORD_ENTRY = 1;
    private static final int SIGN_ENTRY = 2;

    private final Row text;
    private final Row converted;
    private final Row conversion;
    private final Reader reader;
    private final Speller speller;
    private final Book book;
    private final Book draft;
    private final Book snapshot;
    private boolean hasSnapshot;
    private final History history;
    private final Survey survey;
    private final Survey trial;

    /** Creates a converter without rules and words. */
    public SoundSpeller() {
        text = new Row(MOST_TYPED);
        converted = new Row(MOST_CONVERTED);
        conversion = new Row(MOST_CONVERTED);
        reader = new Reader(text);
        speller = new Speller();
        book = new Book(MOST_RULES, MOST_WORDS);
        // An entry takes two characters at least, so that one text can't overflow the draft.
        draft = new Book(MOST_RULES + MOST_TYPED / 2, MOST_WORDS + MOST_TYPED / 2);
        snapshot = new Book(MOST_RULES, MOST_WORDS);
        history = new History();
        survey = new Survey();
        trial = new Survey();
    }

    // ---- rules, signs, words

    /** Does the entries of the text, which stays: all of them, or none. */
    public int readEntries() {
        draft.copyFrom(book);
        reader.begin();
        boolean allNew = true;
        int entries = 0;
        for (int turn = 0; turn < MOST_TYPED; turn++) {
            if (!reader.takeEntry()) {
                return reader.fault();
            }
            // A fault further on goes ahead of an entry that is there already.
            allNew = draft.addEntry(reader) && allNew;
            entries++;
            if (!reader.take(',')) {
                break;
            }
        }
        if (!reader.isAtEnd()) {
            return reader.fault();
        }
        if (!allNew) {
            return NOT_POSSIBLE;
        }
        if (draft.rules() > MOST_RULES || draft.words() > MOST_WORDS) {
            return FULL;
        }
        history.record(book);
        book.copyFrom(draft);
        survey.renew(book);
        return entries;
    }

    /** Removes a rule; later ones have one number less. */
    public int removeRule(int rule) {
        if (!book.hasRule(rule)) {
            return UNKNOWN;
        }
        history.record(book);
        book.dropRule(rule);
        survey.renew(book);
        return book.rules();
    }

    /** Puts a rule to another place; tells how many words are spelled anew by that. */
    public int moveRule(int rule, int place) {
        if (!book.hasRule(rule)) {
            return UNKNOWN;
        }
        if (!book.hasRule(place)) {
            return BAD_VALUE;
        }
        if (rule == place) {
            return NONE;
        }
        history.record(book);
        trial.renew(book);
        book.shiftRule(rule, place);
        survey.renew(book);
        return survey.differences(trial);
    }

    /** Removes a word of the book; later ones have one number less. */
    public int removeWord(int word) {
        if (!book.hasWord(word)) {
            return UNKNOWN;
        }
        history.record(book);
        book.dropWord(word);
        survey.renew(book);
        return book.words();
    }

    /** Gives a word of the book another kind; tells the previous one. */
    public int setKind(int word, int kind) {
        if (!book.hasWord(word)) {
            return UNKNOWN;
        }
        if (kind < PLAIN || kind > MARKED) {
            return BAD_VALUE;
        }
        int previous = book.kinds.get(word);
        if (previous == kind) {
            return NONE;
        }
        history.record(book);
        book.kinds.set(word, kind);
        survey.renew(book);
        return previous;
    }

    /** Marks each plain word that collides with any word ahead of it. */
    public int markCollisions() {
        int marked = 0;
        for (int word = 0; word < book.words(); word++) {
            if (isToBeMarked(word)) {
                marked++;
            }
        }
        if (marked == 0) {
            return NONE;
        }
        history.record(book);
        // The survey stays as it was meanwhile: the lowest word of a collision is
        // never marked, so each later one still collides as its turn comes.
        for (int word = 0; word < book.words(); word++) {
            if (isToBeMarked(word)) {
                book.kinds.set(word, MARKED);
            }
        }
        survey.renew(book);
        return marked;
    }

    private boolean isToBeMarked(int word) {
        return book.kinds.get(word) == PLAIN && !survey.comesBack(word);
    }

    // ---- texts

    /** Types a character behind the text. */
    public int type(char character) {
        if (text.isFull()) {
            return FULL;
        }
        text.add(character);
        return text.size();
    }

    /** Empties the text. */
    public int clearText() {
        int length = text.size();
        text.clear();
        return length;
    }

    /** Converts the words of the text, there or back, to the result. */
    public int convert(boolean back) {
        conversion.clear();
        reader.begin();
        int most = back ? NEW_LETTERS : WORD_LETTERS;
        for (int turn = 0; turn < MOST_TYPED; turn++) {
            if (!reader.takeLetters(most)) {
                return reader.fault();
            }
            if (back) {
                convertBack(reader.take('\''));
            } else {
                convertThere();
            }
            if (!reader.take(' ')) {
                break;
            }
            conversion.add(' ');
        }
        if (!reader.isAtEnd()) {
            return reader.fault();
        }
        converted.copyFrom(conversion);
        return converted.size();
    }

    private void convertThere() {
        int known = book.letters.find(reader.letters);
        int kind = known == NONE ? PLAIN : book.kinds.get(known);
        speller.hear(book, reader.letters);
        speller.write(book, reader.letters, kind);
        conversion.addAll(speller.spelling);
    }

    private void convertBack(boolean marked) {
        if (marked) {
            reader.letters.add('\'');
        }
        int known = survey.spellings.find(reader.letters);
        if (known != NONE) {
            book.letters.copyTo(known, reader.letters);
        } else if (marked) {
            reader.letters.dropLast();
        }
        conversion.addAll(reader.letters);
    }

    /** Makes the result the text. */
    public int takeResult() {
        if (converted.size() > MOST_TYPED) {
            return FULL;
        }
        text.copyFrom(converted);
        return text.size();
    }

    // ---- history

    /** Removes and restores the latest state of the history. */
    public int undo() {
        if (history.states() == 0) {
            return NONE;
        }
        history.bringBack(book);
        survey.renew(book);
        return history.states();
    }

    /** Takes a snapshot of the state, in place of the one that was. */
    public int keep() {
        snapshot.copyFrom(book);
        hasSnapshot = true;
        return book.words();
    }

    /** Restores the state of the snapshot, which stays. */
    public int restore() {
        if (!hasSnapshot) {
            return NONE;
        }
        history.record(book);
        book.copyFrom(snapshot);
        survey.renew(book);
        return book.words();
    }

    // ---- what is told

    /** Tells a number of a rule. */
    public int rule(int rule, int what) {
        if (!book.hasRule(rule)) {
            return UNKNOWN;
        }
        switch (what) {
            case 0:
                return book.ruleLetters.length(rule);
            case 1:
                return book.ruleSounds.get(rule);
            case 2:
                return book.ruleSides.get(rule);
            case 3:
                return survey.ruleUses.get(rule);
            default:
                return BAD_VALUE;
        }
    }

    /** Tells a letter of a rule. */
    public int letterOf(int rule, int index) {
        if (!book.hasRule(rule)) {
            return UNKNOWN;
        }
        return index < 0 ? BAD_VALUE : book.ruleLetters.get(rule, index);
    }

    /** Tells a letter of the sign of a sound. */
    public int sign(char sound, int index) {
        if (!isCapital(sound)) {
            return UNKNOWN;
        }
        if (index < 0 || index >= SIGN_LETTERS) {
            return BAD_VALUE;
        }
        return book.signs.get(sound - 'A', index);
    }

    /** Tells a number of a word of the book. */
    public int word(int word, int what) {
        if (!book.hasWord(word)) {
            return UNKNOWN;
        }
        switch (what) {
            case 0:
                return book.kinds.get(word);
            case 1:
                return book.letters.length(word);
            case 2:
                return survey.sounds.length(word);
            case 3:
                return survey.spellings.length(word);
            case 4:
                return survey.spellings.countLike(word);
            case 5:
                return survey.comesBack(word) ? 1 : 0;
            case 6:
                return survey.wordUses.get(word);
            default:
                return BAD_VALUE;
        }
    }

    /** Tells a letter, sound, sign or used rule of a word of the book. */
    public int at(int word, int what, int index) {
        if (!book.hasWord(word)) {
            return UNKNOWN;
        }
        if (index < 0) {
            return BAD_VALUE;
        }
        switch (what) {
            case 0:
                return book.letters.get(word, index);
            case 1:
                return survey.sounds.get(word, index);
            case 2:
                return survey.spellings.get(word, index);
            case 3:
                return survey.rulesAt.get(word, index);
            default:
                return BAD_VALUE;
        }
    }

    /** Tells a character of the result. */
    public int result(int index) {
        return index < 0 ? BAD_VALUE : converted.get(index);
    }

    /** Tells how many words would collide, if a sound had another sign of one letter. */
    public int collideWith(char sound, char letter) {
        if (!isCapital(sound)) {
            return UNKNOWN;
        }
        if (!isSmall(letter)) {
            return BAD_VALUE;
        }
        draft.copyFrom(book);
        draft.signs.putOne(sound - 'A', letter);
        trial.renew(draft);
        return trial.collisions();
    }

    /** Tells a number of the whole. */
    public int count(int what) {
        switch (what) {
            case 0:
                return book.rules();
            case 1:
                return book.words();
            case 2:
                return survey.collisions();
            case 3:
                return survey.comingBack();
            case 4:
                return survey.unusedRules();
            case 5:
                return book.letters.wholeLength();
            case 6:
                return survey.spellings.wholeLength();
            case 7:
                return converted.size();
            case 8:
                return history.states();
            case 9:
                return text.size();
            case 10:
                return book.longSigns();
            default:
                return BAD_VALUE;
        }
    }

    // ---- characters

    private static boolean isSmall(int character) {
        return character >= 'a' && character <= 'z';
    }

    private static boolean isCapital(int character) {
        return character >= 'A' && character <= 'Z';
    }

    private static boolean isVowel(int character) {
        switch (character) {
            case 'a':
            case 'e':
            case 'i':
            case 'o':
            case 'u':
                return true;
            default:
                return false;
        }
    }

    /**
     * A row of numbers with a fixed room. Every index of the program's numbers
     * is looked at here: outside of the row NONE stands, which is no character
     * and no rule.
     */
    private static final class Row {
        private final int[] cells;
        private int size;

        Row(int room) {
            cells = new int[Math.max(room, 0)];
        }

        int size() {
            return size;
        }

        boolean isFull() {
            return size >= cells.length;
        }

        int get(int index) {
            return index >= 0 && index < size && index < cells.length ? cells[index] : NONE;
        }

        void set(int index, int value) {
            if (index >= 0 && index < size && index < cells.length) {
                cells[index] = value;
            }
        }

        void add(int value) {
            if (size >= 0 && size < cells.length) {
                cells[size] = value;
                size++;
            }
        }

        void addAll(Row other) {
            for (int index = 0; index < other.size; index++) {
                add(other.get(index));
            }
        }

        void addMany(int value, int times) {
            for (int turn = 0; turn < times; turn++) {
                add(value);
            }
        }

        void increase(int index) {
            set(index, get(index) + 1);
        }

        void clear() {
            size = 0;
        }

        void dropLast() {
            size = Math.max(size - 1, 0);
        }

        void copyFrom(Row other) {
            clear();
            addAll(other);
        }

        void swap(int index, int other) {
            int value = get(index);
            set(index, get(other));
            set(other, value);
        }

        void move(int from, int to) {
            for (int index = from; index < to; index++) {
                swap(index, index + 1);
            }
            for (int index = from; index > to; index--) {
                swap(index, index - 1);
            }
        }

        void remove(int index) {
            if (index >= 0 && index < size) {
                move(index, size - 1);
                dropLast();
            }
        }
    }

    /** Lines of numbers, each at most as long as the width, side by side in one row. */
    private static final class Rows {
        private final int width;
        private final Row cells;
        private final Row lengths;

        Rows(int most, int widest) {
            width = widest;
            cells = new Row(most * widest);
            cells.addMany(0, most * widest);
            lengths = new Row(most);
        }

        int lines() {
            return lengths.size();
        }

        boolean has(int line) {
            return line >= 0 && line < lengths.size();
        }

        int length(int line) {
            return lengths.get(line);
        }

        int wholeLength() {
            int whole = 0;
            for (int line = 0; line < lengths.size(); line++) {
                whole += lengths.get(line);
            }
            return whole;
        }

        int get(int line, int index) {
            boolean inside = index >= 0 && index < lengths.get(line);
            return inside ? cells.get(line * width + index) : NONE;
        }

        void add(Row row) {
            if (!lengths.isFull()) {
                lengths.add(0);
                put(lengths.size() - 1, row);
            }
        }

        void put(int line, Row row) {
            if (has(line)) {
                int length = Math.min(row.size(), width);
                lengths.set(line, length);
                for (int index = 0; index < length; index++) {
                    cells.set(line * width + index, row.get(index));
                }
            }
        }

        void putOne(int line, int value) {
            if (has(line) && width > 0) {
                lengths.set(line, 1);
                cells.set(line * width, value);
            }
        }

        void copyTo(int line, Row row) {
            row.clear();
            for (int index = 0; index < lengths.get(line); index++) {
                row.add(get(line, index));
            }
        }

        void copyFrom(Rows other) {
            lengths.copyFrom(other.lengths);
            for (int cell = 0; cell < lengths.size() * width; cell++) {
                cells.set(cell, other.cells.get(cell));
            }
        }

        void clear() {
            lengths.clear();
        }

        boolean isLike(int line, Row row) {
            if (lengths.get(line) != row.size()) {
                return false;
            }
            for (int index = 0; index < row.size(); index++) {
                if (get(line, index) != row.get(index)) {
                    return false;
                }
            }
            return true;
        }

        boolean isLike(int line, Rows other, int otherLine) {
            if (lengths.get(line) != other.lengths.get(otherLine)) {
                return false;
            }
            for (int index = 0; index < lengths.get(line); index++) {
                if (get(line, index) != other.get(otherLine, index)) {
                    return false;
                }
            }
            return true;
        }

        int find(Row row) {
            for (int line = 0; line < lengths.size(); line++) {
                if (isLike(line, row)) {
                    return line;
                }
            }
            return NONE;
        }

        int lowestLike(int line) {
            for (int other = 0; other < line; other++) {
                if (isLike(other, this, line)) {
                    return other;
                }
            }
            return line;
        }

        int countLike(int line) {
            int like = 0;
            for (int other = 0; other < lengths.size(); other++) {
                if (isLike(other, this, line)) {
                    like++;
                }
            }
            return like;
        }

        private void swap(int line, int other) {
            lengths.swap(line, other);
            for (int index = 0; index < width; index++) {
                cells.swap(line * width + index, other * width + index);
            }
        }

        void move(int from, int to) {
            for (int line = from; line < to; line++) {
                swap(line, line + 1);
            }
            for (int line = from; line > to; line--) {
                swap(line, line - 1);
            }
        }

        void remove(int line) {
            if (has(line)) {
                move(line, lengths.size() - 1);
                lengths.dropLast();
            }
        }
    }

    /** A state: the rules, the signs of the sounds, and the words of the book. */
    private static final class Book {
        final Rows ruleLetters;
        final Row ruleSounds;
        final Row ruleSides;
        final Rows signs;
        final Rows letters;
        final Row kinds;

        Book(int mostRules, int mostWords) {
            ruleLetters = new Rows(mostRules, RULE_LETTERS);
            ruleSounds = new Row(mostRules);
            ruleSides = new Row(mostRules);
            signs = new Rows(ALPHABET, SIGN_LETTERS);
            letters = new Rows(mostWords, WORD_LETTERS);
            kinds = new Row(mostWords);
            Row sign = new Row(1);
            for (int sound = 0; sound < ALPHABET; sound++) {
                sign.clear();
                sign.add('a' + sound);
                signs.add(sign);
            }
        }

        void copyFrom(Book other) {
            ruleLetters.copyFrom(other.ruleLetters);
            ruleSounds.copyFrom(other.ruleSounds);
            ruleSides.copyFrom(other.ruleSides);
            signs.copyFrom(other.signs);
            letters.copyFrom(other.letters);
            kinds.copyFrom(other.kinds);
        }

        int rules() {
            return ruleLetters.lines();
        }

        int words() {
            return letters.lines();
        }

        boolean hasRule(int rule) {
            return ruleLetters.has(rule);
        }

        boolean hasWord(int word) {
            return letters.has(word);
        }

        /** Does the entry that was read; tells whether it was not there already. */
        boolean addEntry(Reader reader) {
            switch (reader.entry) {
                case RULE_ENTRY:
                    return addRule(reader);
                case WORD_ENTRY:
                    return addWord(reader);
                default:
                    signs.put(reader.sound - 'A', reader.letters);
                    return true;
            }
        }

        private boolean addRule(Reader reader) {
            for (int rule = 0; rule < rules(); rule++) {
                if (ruleSides.get(rule) == reader.side && ruleLetters.isLike(rule, reader.letters)) {
                    return false;
                }
            }
            ruleLetters.add(reader.letters);
            ruleSounds.add(reader.sound);
            ruleSides.add(reader.side);
            return true;
        }

        private boolean addWord(Reader reader) {
            if (letters.find(reader.letters) != NONE) {
                return false;
            }
            letters.add(reader.letters);
            kinds.add(reader.kind);
            return true;
        }

        void dropRule(int rule) {
            ruleLetters.remove(rule);
            ruleSounds.remove(rule);
            ruleSides.remove(rule);
        }

        void shiftRule(int rule, int place) {
            ruleLetters.move(rule, place);
            ruleSounds.move(rule, place);
            ruleSides.move(rule, place);
        }

        void dropWord(int word) {
            letters.remove(word);
            kinds.remove(word);
        }

        int longSigns() {
            int found = 0;
            for (int sound = 0; sound < signs.lines(); sound++) {
                if (signs.length(sound) == SIGN_LETTERS) {
                    found++;
                }
            }
            return found;
        }
    }

    /** Reads a text from its beginning on, and stays where a character is not allowed. */
    private static final class Reader {
        // An apostrophe may come behind the letters of a new spelling.
        final Row letters = new Row(NEW_LETTERS + 1);
        private final Row text;
        private int place;
        int entry;
        int sound;
        int side;
        int kind;

        Reader(Row read) {
            text = read;
        }

        void begin() {
            place = 0;
        }

        boolean isAtEnd() {
            return place >= text.size();
        }

        int fault() {
            return FAULT - place;
        }

        boolean take(int character) {
            boolean here = text.get(place) == character;
            if (here) {
                place++;
            }
            return here;
        }

        boolean takeLetters(int most) {
            letters.clear();
            for (int turn = 0; turn < most && isSmall(text.get(place)); turn++) {
                letters.add(text.get(place));
                place++;
            }
            return letters.size() > 0;
        }

        boolean takeEntry() {
            int first = text.get(place);
            if (first == ':') {
                return takeWord();
            }
            return isCapital(first) ? takeSign() : takeRule();
        }

        private boolean takeRule() {
            entry = RULE_ENTRY;
            if (!takeLetters(RULE_LETTERS) || !take('=') || !takeSound()) {
                return false;
            }
            side = takeSide();
            return true;
        }

        private boolean takeSound() {
            int character = text.get(place);
            if (character != '_' && !isCapital(character)) {
                return false;
            }
            sound = character == '_' ? NO_SOUND : character;
            place++;
            return true;
        }

        private int takeSide() {
            int found = sideOf(text.get(place));
            if (found != NO_SIDE) {
                place++;
            }
            return found;
        }

        private static int sideOf(int character) {
            switch (character) {
                case '^':
                    return AT_BEGINNING;
                case '$':
                    return AT_END;
                case '+':
                    return AHEAD_OF_VOWEL;
                case '-':
                    return AHEAD_OF_NO_VOWEL;
                case '<':
                    return BEHIND_VOWEL;
                default:
                    return NO_SIDE;
            }
        }

        private boolean takeWord() {
            entry = WORD_ENTRY;
            if (!take(':') || !takeLetters(WORD_LETTERS)) {
                return false;
            }
            kind = PLAIN;
            if (take('!')) {
                kind = KEPT;
            } else if (take('\'')) {
                kind = MARKED;
            }
            return true;
        }

        private boolean takeSign() {
            entry = SIGN_ENTRY;
            return takeSound() && take('=') && takeLetters(SIGN_LETTERS);
        }
    }

    /** Turns one word into sounds, and the sounds into its new spelling. */
    private static final class Speller {
        final Row sounds = new Row(WORD_LETTERS);
        final Row rulesAt = new Row(WORD_LETTERS);
        final Row rulesUsed = new Row(WORD_LETTERS);
        final Row spelling = new Row(NEW_LETTERS + 1);

        void hear(Book book, Row word) {
            sounds.clear();
            rulesAt.clear();
            rulesUsed.clear();
            int place = 0;
            for (int turn = 0; turn < WORD_LETTERS && place < word.size(); turn++) {
                int rule = bestRule(book, word, place);
                if (rule == NONE) {
                    sounds.add(word.get(place));
                    rulesAt.add(NONE);
                    place++;
                } else {
                    useRule(book, rule);
                    place += book.ruleLetters.length(rule);
                }
            }
        }

        private void useRule(Book book, int rule) {
            int sound = book.ruleSounds.get(rule);
            if (sound != NO_SOUND) {
                sounds.add(sound);
            }
            rulesUsed.add(rule);
            rulesAt.addMany(rule, book.ruleLetters.length(rule));
        }

        private static int bestRule(Book book, Row word, int place) {
            int best = NONE;
            int bestRank = 0;
            for (int rule = 0; rule < book.rules(); rule++) {
                // A side outranks none, but not one letter more.
                int rank = 2 * book.ruleLetters.length(rule)
                        + (book.ruleSides.get(rule) == NO_SIDE ? 0 : 1);
                if (rank > bestRank && holds(book, rule, word, place)) {
                    best = rule;
                    bestRank = rank;
                }
            }
            return best;
        }

        private static boolean holds(Book book, int rule, Row word, int place) {
            int length = book.ruleLetters.length(rule);
            for (int index = 0; index < length; index++) {
                if (book.ruleLetters.get(rule, index) != word.get(place + index)) {
                    return false;
                }
            }
            return sideHolds(book.ruleSides.get(rule), word, place, place + length);
        }

        private static boolean sideHolds(int side, Row word, int start, int end) {
            switch (side) {
                case AT_BEGINNING:
                    return start == 0;
                case AT_END:
                    return end == word.size();
                case AHEAD_OF_VOWEL:
                    return isVowel(word.get(end));
                case AHEAD_OF_NO_VOWEL:
                    return !isVowel(word.get(end));
                case BEHIND_VOWEL:
                    return isVowel(word.get(start - 1));
                default:
                    return true;
            }
        }

        /** Writes the word that was heard last. */
        void write(Book book, Row word, int kind) {
            spelling.clear();
            if (kind != KEPT) {
                for (int index = 0; index < sounds.size(); index++) {
                    addSign(book, sounds.get(index));
                }
            }
            if (spelling.size() == 0) {
                spelling.addAll(word);
            }
            if (kind == MARKED) {
                spelling.add('\'');
            }
        }

        private void addSign(Book book, int sound) {
            if (isCapital(sound)) {
                for (int index = 0; index < book.signs.length(sound - 'A'); index++) {
                    spelling.add(book.signs.get(sound - 'A', index));
                }
            } else {
                spelling.add(sound);
            }
        }
    }

    /** What a state makes of the words of its book; it is renewed with each change of the state. */
    private static final class Survey {
        final Rows sounds = new Rows(MOST_WORDS, WORD_LETTERS);
        final Rows rulesAt = new Rows(MOST_WORDS, WORD_LETTERS);
        final Rows spellings = new Rows(MOST_WORDS, NEW_LETTERS + 1);
        final Row wordUses = new Row(MOST_WORDS);
        final Row ruleUses = new Row(MOST_RULES);
        private final Speller speller = new Speller();
        private final Row word = new Row(WORD_LETTERS);

        void renew(Book book) {
            sounds.clear();
            rulesAt.clear();
            spellings.clear();
            wordUses.clear();
            ruleUses.clear();
            ruleUses.addMany(0, book.rules());
            for (int line = 0; line < book.words(); line++) {
                book.letters.copyTo(line, word);
                speller.hear(book, word);
                speller.write(book, word, book.kinds.get(line));
                sounds.add(speller.sounds);
                rulesAt.add(speller.rulesAt);
                spellings.add(speller.spelling);
                wordUses.add(speller.rulesUsed.size());
                addUses(speller.rulesUsed);
            }
        }

        private void addUses(Row rulesUsed) {
            for (int index = 0; index < rulesUsed.size(); index++) {
                ruleUses.increase(rulesUsed.get(index));
            }
        }

        /** A word's new spelling is found again in the book, so it comes back unless a lower one has it too. */
        boolean comesBack(int line) {
            return spellings.lowestLike(line) == line;
        }

        int comingBack() {
            int found = 0;
            for (int line = 0; line < spellings.lines(); line++) {
                if (comesBack(line)) {
                    found++;
                }
            }
            return found;
        }

        int collisions() {
            int found = 0;
            for (int line = 0; line < spellings.lines(); line++) {
                if (spellings.countLike(line) > 1) {
                    found++;
                }
            }
            return found;
        }

        int unusedRules() {
            int found = 0;
            for (int rule = 0; rule < ruleUses.size(); rule++) {
                if (ruleUses.get(rule) == 0) {
                    found++;
                }
            }
            return found;
        }

        int differences(Survey other) {
            int found = 0;
            for (int line = 0; line < spellings.lines(); line++) {
                if (!spellings.isLike(line, other.spellings, line)) {
                    found++;
                }
            }
            return found;
        }
    }

    /** The states that were before the latest acts, the oldest first. */
    private static final class History {
        private final Book[] states;
        private int size;

        History() {
            states = new Book[MOST_STATES];
            for (int index = 0; index < states.length; index++) {
                states[index] = new Book(MOST_RULES, MOST_WORDS);
            }
        }

        int states() {
            return size;
        }

        void record(Book book) {
            if (size >= states.length) {
                dropOldest();
            }
            if (size >= 0 && size < states.length && states[size] != null) {
                states[size].copyFrom(book);
                size++;
            }
        }

        /** The book of the oldest state is put behind the others, to be written anew. */
        private void dropOldest() {
            for (int index = 0; index + 1 < states.length; index++) {
                Book older = states[index];
                states[index] = states[index + 1];
                states[index + 1] = older;
            }
            size = Math.max(size - 1, 0);
        }

        void bringBack(Book book) {
            int latest = size - 1;
            if (latest >= 0 && latest < states.length && states[latest] != null) {
                book.copyFrom(states[latest]);
                size = latest;
            }
        }
    }
}
