import java.util.ArrayList;
import java.util.HashMap;
import java.util.List;
import java.util.Map;

/** The document said once more, as plainly as can be and in other ways than the class does, to compare with. */
final class PlainModel {
    final List<List<int[]>> pages = new ArrayList<>();
    final List<List<int[]>> forms = new ArrayList<>();
    final List<int[]> uses = new ArrayList<>();
    final List<String> words = new ArrayList<>();
    final List<int[]> areas = new ArrayList<>();
    final List<int[]> stores = new ArrayList<>();
    final List<int[]> encodings = new ArrayList<>();
    List<String> left = new ArrayList<>();

    PlainModel() {
        for (int i = 0; i < 4; i++) {
            pages.add(new ArrayList<>());
        }
    }

    private static void index(int number, int count) {
        if (number < 0 || number >= count) {
            throw new IndexOutOfBoundsException();
        }
    }

    private static void argument(boolean fine) {
        if (!fine) {
            throw new IllegalArgumentException();
        }
    }

    private static void room(int count, int most) {
        if (count >= most) {
            throw new UnsupportedOperationException();
        }
    }

    int sign(List<List<int[]>> rows, int number, int code, int x, int y, int width) {
        index(number, rows.size());
        argument(code >= 33 && code <= 126 && x >= 0 && x <= 999 && y >= 0 && y <= 999 && width >= 1 && width <= 50);
        room(rows.get(number).size(), 40);
        rows.get(number).add(new int[] {code, x, y, width});
        return rows.get(number).size();
    }

    int form() {
        room(forms.size(), 20);
        forms.add(new ArrayList<>());
        return forms.size() - 1;
    }

    int use(int page, int form, int dx, int dy) {
        index(page, 4);
        index(form, forms.size());
        argument(Math.abs((long) dx) <= 999 && Math.abs((long) dy) <= 999);
        room(uses.size(), 12);
        uses.add(new int[] {page, form, dx, dy});
        return uses.size() - 1;
    }

    int word() {
        room(words.size(), 4);
        words.add("");
        return words.size() - 1;
    }

    int letter(int word, int code) {
        index(word, words.size());
        argument(code >= 33 && code <= 126 && code != 42);
        room(words.get(word).length(), 8);
        words.set(word, words.get(word) + (char) code);
        return words.get(word).length();
    }

    int area(int page, int x, int y, int wide, int high) {
        index(page, 4);
        argument(Math.abs((long) x) <= 999 && Math.abs((long) y) <= 999);
        argument(wide >= 0 && wide <= 1999 && high >= 0 && high <= 1999);
        room(areas.size(), 8);
        areas.add(new int[] {page, x, y, wide, high});
        return areas.size();
    }

    int store(int encoding) {
        argument(encoding >= 0 && encoding <= 3);
        room(stores.size(), 8);
        stores.add(new int[0]);
        encodings.add(new int[] {encoding});
        return stores.size() - 1;
    }

    int octet(int store, byte b) {
        index(store, stores.size());
        int[] old = stores.get(store);
        room(old.length, 60);
        int[] longer = java.util.Arrays.copyOf(old, old.length + 1);
        longer[old.length] = Byte.toUnsignedInt(b);
        stores.set(store, longer);
        return longer.length;
    }

    int black() {
        List<String> pageMarks = new ArrayList<>();
        for (int page = 0; page < 4; page++) {
            pageMarks.add(marks(pages.get(page), page, 0, 0));
        }
        List<List<int[]>> formsThen = new ArrayList<>(forms);
        List<Integer> formsOfUses = new ArrayList<>();
        Map<String, Integer> copies = new HashMap<>();
        int gone = 0;
        for (int[] use : uses) {
            String marks = marks(forms.get(use[1]), use[0], use[2], use[3]);
            int now = use[1];
            if (marks.contains("m")) {
                String key = use[1] + ":" + marks;
                if (!copies.containsKey(key)) {
                    copies.put(key, formsThen.size());
                    formsThen.add(cut(forms.get(use[1]), marks));
                }
                now = copies.get(key);
                gone += count(marks);
            }
            formsOfUses.add(now);
        }
        room(formsThen.size(), 21);
        forms.clear();
        forms.addAll(formsThen);
        for (int i = 0; i < uses.size(); i++) {
            uses.get(i)[1] = formsOfUses.get(i);
        }
        for (int page = 0; page < 4; page++) {
            pages.set(page, cut(pages.get(page), pageMarks.get(page)));
            gone += count(pageMarks.get(page));
        }
        for (int i = 0; i < stores.size(); i++) {
            gone += blackStore(i);
        }
        return gone;
    }

    private int blackStore(int i) {
        int encoding = encodings.get(i)[0];
        String text = decoded(stores.get(i), encoding);
        if (text == null) {
            stores.set(i, new int[0]);
            return 0;
        }
        String marks = wordMarks(text);
        StringBuilder masked = new StringBuilder();
        for (int k = 0; k < text.length(); k++) {
            masked.append(marks.charAt(k) == 'm' ? '\uffff' : text.charAt(k));
        }
        String cutText = masked.toString().replaceAll("\uffff+", "*");
        List<Integer> bytes = new ArrayList<>();
        for (char code : cutText.toCharArray()) {
            if (encoding == 0) {
                bytes.add((int) code);
            } else if (encoding == 3) {
                String digits = String.format("%02X", (int) code);
                bytes.add((int) digits.charAt(0));
                bytes.add((int) digits.charAt(1));
            } else {
                bytes.add(encoding == 1 ? 0 : (int) code);
                bytes.add(encoding == 1 ? (int) code : 0);
            }
        }
        stores.set(i, bytes.stream().mapToInt(b -> b).toArray());
        return count(marks);
    }

    private static int count(String marks) {
        return marks.replace("-", "").length();
    }

    private static List<int[]> cut(List<int[]> row, String marks) {
        List<int[]> result = new ArrayList<>();
        int i = 0;
        while (i < row.size()) {
            int[] sign = row.get(i);
            if (marks.charAt(i) == 'm') {
                result.add(new int[] {0, sign[1], sign[2], 100});
                while (i < row.size() && marks.charAt(i) == 'm') {
                    i++;
                }
            } else {
                result.add(sign);
                i++;
            }
        }
        return result;
    }

    private String marks(List<int[]> row, int page, int dx, int dy) {
        char[] marks = wordMarks(text(row)).toCharArray();
        for (int i = 0; i < marks.length; i++) {
            int[] sign = row.get(i);
            if (sign[0] != 0 && inArea(page, sign[1] + dx, sign[2] + dy, sign[3])) {
                marks[i] = 'm';
            }
        }
        return new String(marks);
    }

    private boolean inArea(int page, int x, int y, int width) {
        for (int[] area : areas) {
            if (area[0] != page) {
                continue;
            }
            boolean column = false;
            boolean line = false;
            for (int dot = x; dot < x + width; dot++) {
                column |= dot >= area[1] && dot < area[1] + area[3];
            }
            for (int dot = y; dot < y + 10; dot++) {
                line |= dot >= area[2] && dot < area[2] + area[4];
            }
            if (column && line) {
                return true;
            }
        }
        return false;
    }

    private static String text(List<int[]> row) {
        StringBuilder text = new StringBuilder();
        for (int[] sign : row) {
            text.append((char) sign[0]);
        }
        return text.toString();
    }

    private String wordMarks(String text) {
        char[] marks = "-".repeat(text.length()).toCharArray();
        for (String word : words) {
            for (int at = text.indexOf(word); at >= 0 && !word.isEmpty(); at = text.indexOf(word, at + 1)) {
                for (int i = 0; i < word.length(); i++) {
                    marks[at + i] = 'm';
                }
            }
        }
        return new String(marks);
    }

    /** The codes of bytes in an encoding, or null where they are not well in it. */
    private static String decoded(int[] bytes, int encoding) {
        StringBuilder raw = new StringBuilder();
        for (int b : bytes) {
            raw.append((char) b);
        }
        String text = raw.toString();
        switch (encoding) {
            case 0:
                return text;
            case 1:
                return text.matches("(?s)(\0.)*") ? every(text, 1) : null;
            case 2:
                return text.matches("(?s)(.\0)*") ? every(text, 0) : null;
            default:
                return text.matches("([0-9A-Fa-f]{2})*") ? fromDigits(text) : null;
        }
    }

    private static String every(String text, int start) {
        StringBuilder result = new StringBuilder();
        for (int i = start; i < text.length(); i += 2) {
            result.append(text.charAt(i));
        }
        return result.toString();
    }

    private static String fromDigits(String text) {
        StringBuilder result = new StringBuilder();
        for (int i = 0; i < text.length(); i += 2) {
            result.append((char) Integer.parseInt(text.substring(i, i + 2), 16));
        }
        return result.toString();
    }

    int look() {
        left = new ArrayList<>();
        for (int page = 0; page < 4; page++) {
            find("0 " + page, text(pages.get(page)), -1);
        }
        for (int use = 0; use < uses.size(); use++) {
            find("1 " + use, text(forms.get(uses.get(use)[1])), -1);
        }
        for (int store = 0; store < stores.size(); store++) {
            for (int encoding = 0; encoding < 4; encoding++) {
                String text = decoded(stores.get(store), encoding);
                if (text != null) {
                    find("2 " + store, text, encoding);
                }
            }
        }
        if (left.size() > 100) {
            left = new ArrayList<>(left.subList(0, 100));
        }
        return left.size();
    }

    private void find(String where, String text, int encoding) {
        for (int place = 0; place < text.length(); place++) {
            for (int word = 0; word < words.size(); word++) {
                if (!words.get(word).isEmpty() && text.startsWith(words.get(word), place)) {
                    left.add(where + " " + place + " " + word + " " + encoding);
                }
            }
        }
    }

    /** All that the face tells, in the form of Check.whole. */
    String whole() {
        StringBuilder text = new StringBuilder();
        text.append(forms.size()).append(' ').append(uses.size()).append(' ').append(words.size()).append(' ')
                .append(areas.size()).append(' ').append(stores.size()).append(' ').append(left.size()).append(' ');
        for (List<int[]> page : pages) {
            text.append("\npage ").append(row(page));
        }
        for (List<int[]> form : forms) {
            text.append("\nform ").append(row(form));
        }
        for (int[] use : uses) {
            text.append("\nuse ").append(use[1]);
        }
        for (String word : words) {
            text.append("\nword ").append(word.length());
        }
        for (int[] store : stores) {
            StringBuilder bytes = new StringBuilder();
            for (int b : store) {
                bytes.append((byte) b).append(' ');
            }
            text.append("\nstore ").append(bytes.toString().trim());
        }
        for (String place : left) {
            text.append("\nleft ").append(place);
        }
        return text.toString();
    }

    private static String row(List<int[]> row) {
        StringBuilder text = new StringBuilder();
        for (int[] sign : row) {
            text.append(sign[0]).append('@').append(sign[1]).append(',').append(sign[2]).append('+').append(sign[3]).append(' ');
        }
        return text.toString().trim();
    }
}
