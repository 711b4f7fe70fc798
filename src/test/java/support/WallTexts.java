import java.util.ArrayList;
import java.util.HashSet;
import java.util.List;
import java.util.Random;
import java.util.Set;

/** Texts of walls, drawn: most of them whole, some spoilt. */
final class WallTexts {
    private final Random random;

    WallTexts(Random random) {
        this.random = random;
    }

    String whole() {
        List<String> clauses = new ArrayList<>();
        Set<String> taken = new HashSet<>();
        int boards = 1 + random.nextInt(random.nextInt(4) == 0 ? 4 : 2);
        boolean strong = random.nextBoolean();
        for (int b = 0; b < boards; b++) {
            clauses.add("board " + (1 + random.nextInt(strong ? 3 : 9)));
        }
        int clocks = random.nextInt(12) == 0 ? random.nextInt(9) : 2 + random.nextInt(7);
        int spread = 2 + random.nextInt(150);
        int base = random.nextInt(1000);
        boolean quick = random.nextInt(3) == 0;
        for (int c = 0; c < clocks; c++) {
            int rate = quick ? random.nextInt(201) : 80 + random.nextInt(41);
            int kind = random.nextInt(3) == 0 ? random.nextInt(5) : 0;
            int phase = kind == 3 && random.nextBoolean() ? random.nextInt(60) : (base + random.nextInt(spread) * (random.nextInt(4) + 1)) % 1000;
            String at = place(boards, taken);
            int weight = 1 + random.nextInt(strong && random.nextBoolean() ? 3 : 20);
            clauses.add("clock " + at + " " + rate + " " + weight + " " + kind + " " + phase);
        }
        int hooks = random.nextInt(random.nextInt(3) == 0 ? 7 : 4);
        for (int h = 0; h < hooks; h++) {
            clauses.add("hook " + place(boards, taken));
        }
        for (int k = random.nextInt(5); k > 0 && clocks > 1; k--) {
            int i = random.nextInt(clocks);
            int j = (i + 1 + random.nextInt(clocks - 1)) % clocks;
            clauses.add("hears " + i + " " + j + " " + random.nextInt(100));
        }
        for (int k = random.nextInt(4); k > 0; k--) {
            clauses.add("damp " + (random.nextInt(5) == 0 ? 390 + random.nextInt(10) : random.nextInt(20)) + " " + random.nextInt(51));
        }
        for (int k = random.nextInt(4); k > 0 && clocks > 0; k--) {
            clauses.add("key " + random.nextInt(clocks) + " " + (1 + random.nextInt(30)));
        }
        for (int k = random.nextInt(6); k > 0 && clocks > 0; k--) {
            clauses.add("sound " + random.nextInt(clocks));
        }
        if (random.nextInt(4) > 0) {
            clauses.add("right " + random.nextInt(random.nextBoolean() ? 500 : 60));
        }
        return joined(clauses);
    }

    private String place(int boards, Set<String> taken) {
        String at;
        do {
            at = random.nextInt(boards) + " " + random.nextInt(random.nextInt(3) == 0 ? 20 : 9);
        } while (!taken.add(at));
        return at;
    }

    private String joined(List<String> clauses) {
        boolean loose = random.nextInt(4) == 0;
        StringBuilder text = new StringBuilder();
        for (String clause : clauses) {
            String written = loose && random.nextInt(3) == 0 ? clause.replace(" ", "  ") : clause;
            written = loose && random.nextInt(5) == 0 ? clause.replaceFirst(" ", "") : written;
            text.append(loose && random.nextInt(4) == 0 ? " " : "").append(written).append(loose && random.nextInt(4) == 0 ? " ;" : ";");
        }
        return text.append(random.nextInt(6) == 0 ? "  " : "").toString();
    }

    String spoilt() {
        StringBuilder text = new StringBuilder(whole());
        String[] pieces = {"board 5;", "hook 0 7;", "clock 0 3 100 5 0 10;", "right 7;", "damp 399 50;", "sound 0;", "key 0 3;", ";", " ", "0", "9",
            "1000", "x", "board", "99999999999999999999", "hears 0 1 99;", "hears 1 1 3;", "\u00e9", "A", "-", "\n", "000"};
        for (int k = 1 + random.nextInt(3); k > 0; k--) {
            int at = random.nextInt(text.length() + 1);
            switch (random.nextInt(5)) {
                case 0 -> text.setLength(at);
                case 1 -> text.insert(at, pieces[random.nextInt(pieces.length)]);
                case 2 -> text.append(pieces[random.nextInt(pieces.length)]);
                case 3 -> text.deleteCharAt(Math.max(0, Math.min(at, text.length() - 1)));
                default -> text.setCharAt(Math.max(0, Math.min(at, text.length() - 1)), (char) ('0' + random.nextInt(12)));
            }
            if (text.length() == 0) {
                text.append("right 3;");
            }
        }
        return text.toString();
    }

    /** Very many clauses, around the sixty that are allowed. */
    String crowded() {
        StringBuilder text = new StringBuilder();
        int many = 57 + random.nextInt(6);
        for (int k = 0; k < many; k++) {
            text.append(random.nextInt(4) == 0 ? "damp " + k + " 1;" : "right " + k + ";");
        }
        return text.append(random.nextInt(3) == 0 ? "x" : "").toString();
    }

    String any() {
        int drawn = random.nextInt(20);
        return drawn < 12 ? whole() : drawn < 18 ? spoilt() : crowded();
    }
}
