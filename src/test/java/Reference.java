import java.util.ArrayDeque;
import java.util.ArrayList;
import java.util.Deque;
import java.util.List;
import java.util.regex.Matcher;
import java.util.regex.Pattern;

/**
 * The document once more, written without regard to the program: with texts,
 * lists and regular expressions, and everything computed anew for each answer.
 */
final class Reference {
    private static final int UNKNOWN = -1;
    private static final int BAD = -2;
    private static final int FULL = -3;
    private static final int NOT_POSSIBLE = -4;
    private static final int NONE = -5;

    private static final String ENTRY = "(?:[a-z]{1,4}=[A-Z_][\\^$+\\-<]?|:[a-z]{1,12}[!']?|[A-Z]=[a-z]{1,2})";
    private static final Pattern ENTRIES = Pattern.compile(ENTRY + "(?:," + ENTRY + ")*");
    private static final Pattern THERE = Pattern.compile("[a-z]{1,12}(?: [a-z]{1,12})*");
    private static final Pattern BACK = Pattern.compile("[a-z]{1,24}'?(?: [a-z]{1,24}'?)*");

    private record Rule(String letters, char sound, char side) {
    }

    private record Word(String letters, char kind) {
    }

    private record State(List<Rule> rules, List<Word> words, List<String> signs) {
        State copy() {
            return new State(new ArrayList<>(rules), new ArrayList<>(words), new ArrayList<>(signs));
        }
    }

    /** What a word is found to be: its sounds, and the rule of each step. */
    private record Heard(String sounds, List<Integer> steps, List<Integer> rulesAt) {
    }

    private State state = new State(new ArrayList<>(), new ArrayList<>(), new ArrayList<>());
    private State snapshot = null;
    private final Deque<State> history = new ArrayDeque<>();
    private String text = "";
    private String result = "";

    Reference() {
        for (char c = 'a'; c <= 'z'; c++) {
            state.signs.add(String.valueOf(c));
        }
    }

    private void act() {
        history.addLast(state.copy());
        if (history.size() > 4) {
            history.removeFirst();
        }
    }

    /** The first character that no whole text could have there; -1 if the text is whole. */
    private static int fault(Pattern pattern, String text) {
        if (pattern.matcher(text).matches()) {
            return -1;
        }
        for (int end = 1; end <= text.length(); end++) {
            Matcher matcher = pattern.matcher(text.substring(0, end));
            if (!matcher.matches() && !matcher.hitEnd()) {
                return end - 1;
            }
        }
        return text.length();
    }

    // ---- sounds and spelling

    private static boolean vowelAt(String word, int place) {
        return place >= 0 && place < word.length() && "aeiou".indexOf(word.charAt(place)) >= 0;
    }

    private static boolean stands(Rule rule, String word, int place) {
        if (!word.startsWith(rule.letters, place)) {
            return false;
        }
        int behind = place + rule.letters.length();
        return switch (rule.side) {
            case '^' -> place == 0;
            case '$' -> behind == word.length();
            case '+' -> vowelAt(word, behind);
            case '-' -> !vowelAt(word, behind);
            case '<' -> vowelAt(word, place - 1);
            default -> true;
        };
    }

    private static Heard hear(State state, String word) {
        StringBuilder sounds = new StringBuilder();
        List<Integer> steps = new ArrayList<>();
        List<Integer> rulesAt = new ArrayList<>();
        for (int place = 0; place < word.length();) {
            int used = choose(state, word, place);
            steps.add(used);
            int letters = used == NONE ? 1 : state.rules.get(used).letters.length();
            char sound = used == NONE ? word.charAt(place) : state.rules.get(used).sound;
            sounds.append(sound == '_' ? "" : String.valueOf(sound));
            for (int i = 0; i < letters; i++) {
                rulesAt.add(used);
            }
            place += letters;
        }
        return new Heard(sounds.toString(), steps, rulesAt);
    }

    private static int choose(State state, String word, int place) {
        for (int letters = 4; letters >= 1; letters--) {
            for (boolean sided : new boolean[] {true, false}) {
                for (int i = 0; i < state.rules.size(); i++) {
                    Rule rule = state.rules.get(i);
                    if (rule.letters.length() == letters && (rule.side != ' ') == sided && stands(rule, word, place)) {
                        return i;
                    }
                }
            }
        }
        return NONE;
    }

    private static String spell(State state, String word, char kind) {
        String spelled = "";
        for (char sound : hear(state, word).sounds.toCharArray()) {
            spelled += Character.isUpperCase(sound) ? state.signs.get(sound - 'A') : String.valueOf(sound);
        }
        if (spelled.isEmpty() || kind == '!') {
            spelled = word;
        }
        return kind == '\'' ? spelled + "'" : spelled;
    }

    private static List<String> spellings(State state) {
        List<String> all = new ArrayList<>();
        for (Word word : state.words) {
            all.add(spell(state, word.letters, word.kind));
        }
        return all;
    }

    private static int colliding(State state) {
        List<String> all = spellings(state);
        return (int) all.stream().filter(s -> all.indexOf(s) != all.lastIndexOf(s)).count();
    }

    private String there(String word) {
        for (Word known : state.words) {
            if (known.letters.equals(word)) {
                return spell(state, word, known.kind);
            }
        }
        return spell(state, word, ' ');
    }

    private String back(String spelled) {
        int known = spellings(state).indexOf(spelled);
        return known >= 0 ? state.words.get(known).letters : spelled.replace("'", "");
    }

    private boolean comesBack(int word) {
        String letters = state.words.get(word).letters;
        return back(there(letters)).equals(letters);
    }

    // ---- acts

    int readEntries() {
        int fault = fault(ENTRIES, text);
        if (fault >= 0) {
            return -100 - fault;
        }
        State next = state.copy();
        String[] entries = text.split(",");
        for (String entry : entries) {
            if (!add(next, entry)) {
                return NOT_POSSIBLE;
            }
        }
        if (next.rules.size() > 30 || next.words.size() > 20) {
            return FULL;
        }
        act();
        state = next;
        return entries.length;
    }

    private static boolean add(State next, String entry) {
        if (entry.startsWith(":")) {
            boolean plain = Character.isLowerCase(entry.charAt(entry.length() - 1));
            String letters = entry.substring(1, entry.length() - (plain ? 0 : 1));
            if (next.words.stream().anyMatch(w -> w.letters.equals(letters))) {
                return false;
            }
            next.words.add(new Word(letters, plain ? ' ' : entry.charAt(entry.length() - 1)));
            return true;
        }
        String[] parts = entry.split("=");
        if (Character.isUpperCase(entry.charAt(0))) {
            next.signs.set(entry.charAt(0) - 'A', parts[1]);
            return true;
        }
        char side = parts[1].length() == 1 ? ' ' : parts[1].charAt(1);
        if (next.rules.stream().anyMatch(r -> r.letters.equals(parts[0]) && r.side == side)) {
            return false;
        }
        next.rules.add(new Rule(parts[0], parts[1].charAt(0), side));
        return true;
    }

    int removeRule(int rule) {
        if (rule < 0 || rule >= state.rules.size()) {
            return UNKNOWN;
        }
        act();
        state.rules.remove(rule);
        return state.rules.size();
    }

    int moveRule(int rule, int place) {
        if (rule < 0 || rule >= state.rules.size()) {
            return UNKNOWN;
        }
        if (place < 0 || place >= state.rules.size()) {
            return BAD;
        }
        if (place == rule) {
            return NONE;
        }
        act();
        List<String> before = spellings(state);
        state.rules.add(place, state.rules.remove(rule));
        List<String> then = spellings(state);
        int other = 0;
        for (int i = 0; i < then.size(); i++) {
            other += then.get(i).equals(before.get(i)) ? 0 : 1;
        }
        return other;
    }

    int removeWord(int word) {
        if (word < 0 || word >= state.words.size()) {
            return UNKNOWN;
        }
        act();
        state.words.remove(word);
        return state.words.size();
    }

    int setKind(int word, int kind) {
        if (word < 0 || word >= state.words.size()) {
            return UNKNOWN;
        }
        if (kind < 0 || kind > 2) {
            return BAD;
        }
        int previous = " !'".indexOf(state.words.get(word).kind);
        if (previous == kind) {
            return NONE;
        }
        act();
        state.words.set(word, new Word(state.words.get(word).letters, " !'".charAt(kind)));
        return previous;
    }

    int markCollisions() {
        State before = state.copy();
        int marked = 0;
        for (int i = 0; i < state.words.size(); i++) {
            List<String> all = spellings(state);
            if (state.words.get(i).kind == ' ' && all.subList(0, i).contains(all.get(i))) {
                state.words.set(i, new Word(state.words.get(i).letters, '\''));
                marked++;
            }
        }
        if (marked == 0) {
            return NONE;
        }
        State then = state;
        state = before;
        act();
        state = then;
        return marked;
    }

    // ---- texts

    int type(char character) {
        if (text.length() == 60) {
            return FULL;
        }
        text += character;
        return text.length();
    }

    int clearText() {
        int length = text.length();
        text = "";
        return length;
    }

    int convert(boolean back) {
        int fault = fault(back ? BACK : THERE, text);
        if (fault >= 0) {
            return -100 - fault;
        }
        List<String> words = new ArrayList<>();
        for (String word : text.split(" ")) {
            words.add(back ? back(word) : there(word));
        }
        result = String.join(" ", words);
        return result.length();
    }

    int takeResult() {
        if (result.length() > 60) {
            return FULL;
        }
        text = result;
        return text.length();
    }

    // ---- history

    int undo() {
        if (history.isEmpty()) {
            return NONE;
        }
        state = history.removeLast();
        return history.size();
    }

    int keep() {
        snapshot = state.copy();
        return state.words.size();
    }

    int restore() {
        if (snapshot == null) {
            return NONE;
        }
        act();
        state = snapshot.copy();
        return state.words.size();
    }

    // ---- what is told

    int rule(int rule, int what) {
        if (rule < 0 || rule >= state.rules.size()) {
            return UNKNOWN;
        }
        Rule told = state.rules.get(rule);
        return switch (what) {
            case 0 -> told.letters.length();
            case 1 -> told.sound == '_' ? 0 : told.sound;
            case 2 -> " ^$+-<".indexOf(told.side);
            case 3 -> uses(rule);
            default -> BAD;
        };
    }

    private int uses(int rule) {
        int uses = 0;
        for (Word word : state.words) {
            for (int step : hear(state, word.letters).steps) {
                uses += step == rule ? 1 : 0;
            }
        }
        return uses;
    }

    int letterOf(int rule, int index) {
        if (rule < 0 || rule >= state.rules.size()) {
            return UNKNOWN;
        }
        return index < 0 ? BAD : charAt(state.rules.get(rule).letters, index);
    }

    private static int charAt(String text, int index) {
        return index < text.length() ? text.charAt(index) : NONE;
    }

    int sign(char sound, int index) {
        if (sound < 'A' || sound > 'Z') {
            return UNKNOWN;
        }
        return index < 0 || index > 1 ? BAD : charAt(state.signs.get(sound - 'A'), index);
    }

    int word(int word, int what) {
        if (word < 0 || word >= state.words.size()) {
            return UNKNOWN;
        }
        Word told = state.words.get(word);
        Heard heard = hear(state, told.letters);
        String spelled = spell(state, told.letters, told.kind);
        return switch (what) {
            case 0 -> " !'".indexOf(told.kind);
            case 1 -> told.letters.length();
            case 2 -> heard.sounds.length();
            case 3 -> spelled.length();
            case 4 -> (int) spellings(state).stream().filter(s -> s.equals(spelled)).count();
            case 5 -> comesBack(word) ? 1 : 0;
            case 6 -> (int) heard.steps.stream().filter(s -> s != NONE).count();
            default -> BAD;
        };
    }

    int at(int word, int what, int index) {
        if (word < 0 || word >= state.words.size()) {
            return UNKNOWN;
        }
        if (what < 0 || what > 3 || index < 0) {
            return BAD;
        }
        Word told = state.words.get(word);
        Heard heard = hear(state, told.letters);
        return switch (what) {
            case 0 -> charAt(told.letters, index);
            case 1 -> charAt(heard.sounds, index);
            case 2 -> charAt(spell(state, told.letters, told.kind), index);
            default -> index < heard.rulesAt.size() ? heard.rulesAt.get(index) : NONE;
        };
    }

    int result(int index) {
        return index < 0 ? BAD : charAt(result, index);
    }

    int collideWith(char sound, char letter) {
        if (sound < 'A' || sound > 'Z') {
            return UNKNOWN;
        }
        if (letter < 'a' || letter > 'z') {
            return BAD;
        }
        State other = state.copy();
        other.signs.set(sound - 'A', String.valueOf(letter));
        return colliding(other);
    }

    int count(int what) {
        int whole = 0;
        switch (what) {
            case 0:
                return state.rules.size();
            case 1:
                return state.words.size();
            case 2:
                return colliding(state);
            case 3:
                for (int i = 0; i < state.words.size(); i++) {
                    whole += comesBack(i) ? 1 : 0;
                }
                return whole;
            case 4:
                for (int i = 0; i < state.rules.size(); i++) {
                    whole += uses(i) == 0 ? 1 : 0;
                }
                return whole;
            case 5:
                return state.words.stream().mapToInt(w -> w.letters.length()).sum();
            case 6:
                return spellings(state).stream().mapToInt(String::length).sum();
            case 7:
                return result.length();
            case 8:
                return history.size();
            case 9:
                return text.length();
            case 10:
                return (int) state.signs.stream().filter(s -> s.length() == 2).count();
            default:
                return BAD;
        }
    }
}
