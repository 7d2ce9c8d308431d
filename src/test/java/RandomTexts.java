import java.util.ArrayList;
import java.util.List;
import java.util.Random;

/** Texts of colleges, most of them without a fault, from a seed. */
final class RandomTexts {
    private static final String[] WORDS = {"college", "thing", "person", "tram", "giver", "rides", "takes", "gives", "found",
        "exam", "days", "limit", "weighs", "room", "wakes", "crowd", "worth", "skill", "dead", "egg", "live", "plain", "bishop",
        "tailor", "guard", "caught", "free", "a", "b", "zz", "abcdefgh", "abcdefghi", ";", " ", "0", "1", "2", "7", "8", "10",
        "50", "60", "61", "99", "100", "101", "007", "1000", "!", "A", "\n", "\u00ff"};
    private final Random random;
    private final List<String> names = new ArrayList<>();
    private final List<List<String>> told = new ArrayList<>();

    RandomTexts(Random random) {
        this.random = random;
    }

    private int upTo(int n) {
        return random.nextInt(n + 1);
    }

    private String one(String... words) {
        return words[random.nextInt(words.length)];
    }

    private String newName(int sort) {
        String name = names.remove(random.nextInt(names.size()));
        told.get(sort).add(name);
        return name;
    }

    private String name(int sort) {
        List<String> some = told.get(sort);
        return some.get(random.nextInt(some.size()));
    }

    String college() {
        names.clear();
        told.clear();
        for (char c = 'a'; c < 'a' + 24; c++) {
            names.add("" + c);
        }
        for (int i = 0; i < 4; i++) {
            told.add(new ArrayList<>());
        }
        int days = 2 + (random.nextBoolean() ? upTo(1) : upTo(5));
        StringBuilder text = new StringBuilder("college days " + days + " limit " + one("0", "10", "20", "30", "40", "60", "100"));
        int easy = one("5", "30", "99").length() == 1 ? 10 : 60;
        for (int i = 1 + upTo(3); i > 0; i--) {
            text.append(";thing ").append(newName(0)).append(' ').append(one("dead", "egg", "live")).append(" weighs ").append(upTo(random.nextBoolean() ? 9 : 50));
        }
        for (int i = 1 + upTo(4); i > 0; i--) {
            text.append(";person ").append(newName(1)).append(' ').append(one("plain", "bishop", "tailor", "guard"))
                .append(" room ").append(upTo(random.nextBoolean() ? 3 : 9)).append(" wakes ").append(upTo(easy));
        }
        for (int i = upTo(4); i > 0; i--) {
            text.append(";tram ").append(newName(2)).append(" crowd ").append(upTo(random.nextBoolean() ? 20 : 60))
                .append(" worth ").append(random.nextInt(4) == 0 ? 30 : 1 + upTo(59));
        }
        for (int i = 1 + upTo(2); i > 0; i--) {
            text.append(";giver ").append(newName(3)).append(" skill ").append(upTo(random.nextBoolean() ? 20 : 60));
        }
        uses(text, days);
        return random.nextInt(3) == 0 ? spoiled(text) : text.length() > 1000 ? text.substring(0, 1000) : text.toString();
    }

    private void uses(StringBuilder text, int days) {
        boolean trams = !told.get(2).isEmpty();
        List<String> free = new ArrayList<>();
        for (int sort = 1; sort <= 3; sort += 2) {
            for (String who : told.get(sort)) {
                for (int day = 0; day < days; day++) {
                    free.add((sort == 1 ? ";rides " : ";takes ") + who + "@" + day);
                }
            }
        }
        for (int i = trams ? upTo(16) : 0; i > 0 && !free.isEmpty(); i--) {
            String pick = free.remove(random.nextInt(free.size()));
            String tram = random.nextInt(3) == 0 ? name(2) : told.get(2).get(0);
            text.append(pick.replace("@", " " + tram + " "));
        }
        for (int i = random.nextInt(4) == 0 ? upTo(3) : upTo(12); i > 0; i--) {
            text.append(";gives ").append(name(3)).append(' ').append(name(0)).append(' ').append(name(1)).append(' ').append(upTo(days - 1));
        }
        for (String thing : told.get(0)) {
            if (random.nextBoolean()) {
                text.append(";found ").append(thing).append(' ').append(name(1));
            }
        }
        for (int i = trams ? upTo(8) - 3 : 0; i > 0; i--) {
            text.append(";exam ").append(name(3)).append(' ').append(name(0)).append(' ').append(name(1)).append(' ').append(name(2))
                .append(' ').append(one("caught", "free"));
        }
    }

    private String spoiled(StringBuilder text) {
        for (int i = 1 + upTo(1); i > 0; i--) {
            int at = random.nextInt(text.length());
            switch (random.nextInt(5)) {
                case 0 -> text.deleteCharAt(at);
                case 1 -> text.setCharAt(at, one(WORDS).charAt(0));
                case 2 -> text.insert(at, one(WORDS));
                case 3 -> swapToken(text, at);
                default -> repeatLine(text, at);
            }
        }
        return text.length() > 1000 ? text.substring(0, 1000) : text.toString();
    }

    private void swapToken(StringBuilder text, int at) {
        int from = at;
        while (from > 0 && text.charAt(from - 1) != ' ' && text.charAt(from - 1) != ';') {
            from--;
        }
        int to = from;
        while (to < text.length() && text.charAt(to) != ' ' && text.charAt(to) != ';') {
            to++;
        }
        text.replace(from, to, random.nextBoolean() ? one(WORDS) : "" + (char) ('a' + upTo(23)));
    }

    private void repeatLine(StringBuilder text, int at) {
        int from = text.lastIndexOf(";", at);
        int to = text.indexOf(";", at + 1);
        if (from >= 0 && to > from) {
            text.insert(random.nextBoolean() ? text.length() : to, text.substring(from, to));
        }
    }
}
