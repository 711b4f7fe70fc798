import java.math.BigInteger;
import java.util.ArrayList;
import java.util.Collections;
import java.util.List;
import java.util.regex.Matcher;
import java.util.regex.Pattern;

/** The text of a wall, read by marks first and by clauses then. */
final class PlainText {
    final PlainWall.World world = new PlainWall.World();
    int fault = 0;
    int faultAt = PlainWall.NONE;

    private static final class Mark {
        final String text;
        final int at;

        Mark(String text, int at) {
            this.text = text;
            this.at = at;
        }
    }

    /** Told by throwing, so that the first fault ends all. */
    private static final class Fault extends RuntimeException {
        private static final long serialVersionUID = 1;
        final int kind;
        final int at;

        Fault(int kind, int at) {
            this.kind = kind;
            this.at = at;
        }
    }

    private final List<Mark> marks = new ArrayList<>();
    private int next = 0;

    PlainText(String text) {
        Matcher m = Pattern.compile("[a-z]+|[0-9]+|;|[^ ]", Pattern.DOTALL).matcher(text);
        while (m.find()) {
            marks.add(new Mark(m.group(), m.start()));
        }
        Mark end = new Mark("", text.length());
        marks.addAll(Collections.nCopies(8, end));
        try {
            for (int clauses = 0; marks.get(next) != end; clauses++) {
                clause(clauses);
            }
        } catch (Fault f) {
            fault = f.kind;
            faultAt = f.at;
        }
    }

    private void clause(int ahead) {
        Mark word = marks.get(next++);
        String known = " board clock hook hears damp key sound right ";
        if (word.text.isBlank() || !known.contains(" " + word.text + " ")) {
            throw new Fault(1, word.at);
        }
        boolean many = ahead == 60
                || word.text.equals("board") && world.thick.size() == 4
                || word.text.equals("clock") && world.clocks.size() == 8
                || word.text.equals("hook") && world.hooks.size() == 6;
        if (many) {
            throw new Fault(3, word.at);
        }
        int clocks = world.clocks.size();
        switch (word.text) {
            case "board" -> world.thick.add(number(1, 9));
            case "clock" -> clock();
            case "hook" -> {
                int b = number(0, world.thick.size() - 1);
                world.hooks.add(new int[] {b, place(b)});
            }
            case "hears" -> {
                int i = number(0, clocks - 1);
                int at = marks.get(next).at;
                int j = number(0, clocks - 1);
                if (i == j) {
                    throw new Fault(2, at);
                }
                world.hears.put(i * 100 + j, number(0, 99));
            }
            case "damp" -> {
                int d = number(0, 399);
                world.damp.put(d, number(0, 50));
            }
            case "key" -> {
                int k = number(0, clocks - 1);
                world.clocks.get(k).key = number(1, 30);
            }
            case "sound" -> world.sound.add(number(0, clocks - 1));
            default -> world.e = number(0, 499);
        }
        Mark end = marks.get(next++);
        if (!end.text.equals(";")) {
            throw new Fault(1, end.at);
        }
    }

    private void clock() {
        PlainWall.Clock c = new PlainWall.Clock();
        c.board = number(0, world.thick.size() - 1);
        c.x = place(c.board);
        c.rate = number(0, 200) - 100;
        c.weight = number(1, 20);
        c.kind = number(0, 4);
        c.phase = number(0, 999);
        world.clocks.put(world.clocks.size(), c);
    }

    private int place(int board) {
        int at = marks.get(next).at;
        int x = number(0, 19);
        boolean taken = world.clocks.values().stream().anyMatch(c -> c.board == board && c.x == x)
                || world.hooks.stream().anyMatch(h -> h[0] == board && h[1] == x);
        if (taken) {
            throw new Fault(2, at);
        }
        return x;
    }

    private int number(int least, int greatest) {
        Mark m = marks.get(next++);
        if (!m.text.matches("[0-9]+")) {
            throw new Fault(1, m.at);
        }
        BigInteger value = new BigInteger(m.text);
        if (value.compareTo(BigInteger.valueOf(least)) < 0 || value.compareTo(BigInteger.valueOf(greatest)) > 0) {
            throw new Fault(2, m.at);
        }
        return value.intValue();
    }
}
