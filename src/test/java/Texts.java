import java.util.Random;

/** Random texts for the four kinds: most of them as the grammar wants them, some bent at one place. */
final class Texts {
    private static final String FACTS = "kind high days roof tall fined nests summer used day";
    private static final String BENT = "; + - * / ( ) < = > ! 12345 0 1 9 16 9999 when or and not leave rent fine day"
            + " on person kite ball at for turn to case follows Leave x \t";

    private final Random random;

    Texts(Random random) {
        this.random = random;
    }

    String some(int k, int people, int swallows, int day) {
        StringBuilder text = new StringBuilder();
        int lines = random.nextInt(10) == 0 ? random.nextInt(19) : random.nextInt(5);
        for (int i = 0; i < lines; i++) {
            String line = line(k, Math.max(1, people), Math.max(1, swallows), day);
            if (text.length() + line.length() > 398) {
                break;
            }
            text.append(line);
        }
        if (random.nextInt(3) == 0) {
            bend(text);
        }
        return text.length() > 400 ? text.substring(0, 400) : text.toString();
    }

    private void bend(StringBuilder text) {
        String[] bits = BENT.split(" ");
        int at = random.nextInt(text.length() + 1);
        switch (random.nextInt(4)) {
            case 0:
                text.setLength(at);
                break;
            case 1:
                text.delete(at, Math.min(text.length(), at + 1 + random.nextInt(4)));
                break;
            case 2:
                text.insert(at, bits[random.nextInt(bits.length)]);
                break;
            default:
                text.insert(at, (char) random.nextInt(256));
                break;
        }
    }

    private String line(int k, int people, int swallows, int day) {
        switch (k) {
            case 0:
                return law();
            case 1: {
                int from = random.nextInt(8);
                String[] kinds = "kite washing umbrella bell balloon ball".split(" ");
                return "on " + Math.min(9999, day + random.nextInt(6)) + gap() + "person " + edge(people - 1) + " "
                        + kinds[random.nextInt(6)] + " at " + edge(9) + " " + from + " "
                        + (random.nextInt(20) == 0 ? random.nextInt(9) : Math.min(7, from + random.nextInt(3)))
                        + gap() + "for " + Math.max(random.nextInt(2), edge(30)) + ";";
            }
            case 2:
                return "turn " + edge(9) + gap() + "to " + edge(swallows - 1) + gap() + ";";
            default:
                return "case " + edge(15) + " follows " + edge(15) + ";";
        }
    }

    private int edge(int most) {
        return random.nextInt(40) == 0 ? most + 1 : random.nextInt(most + 1);
    }

    private String gap() {
        return random.nextInt(4) == 0 ? "" : random.nextInt(4) == 0 ? "\n " : " ";
    }

    private String law() {
        String word = new String[] {"leave ", "rent ", "fine "}[random.nextInt(3)];
        String line = word + sum(2);
        if (random.nextInt(2) == 0) {
            line += " when " + condition(random.nextInt(12) == 0 ? 10 : 3);
        }
        return line + gap() + ";" + gap();
    }

    private String sum(int deep) {
        StringBuilder s = new StringBuilder(product());
        while (deep > 0 && random.nextInt(3) == 0) {
            s.append(random.nextBoolean() ? "+" : " - ").append(product());
        }
        return s.toString();
    }

    private String product() {
        StringBuilder s = new StringBuilder(unit());
        while (random.nextInt(3) == 0) {
            s.append(random.nextInt(3) == 0 ? "/" + random.nextInt(12) : "*" + unit());
        }
        return s.toString();
    }

    private String unit() {
        String[] facts = FACTS.split(" ");
        int kind = random.nextInt(8);
        return kind < 4 ? facts[random.nextInt(10)] : "" + random.nextInt(kind < 6 ? 10 : kind < 7 ? 1000 : 10000);
    }

    private String condition(int deep) {
        StringBuilder s = new StringBuilder(clause(deep));
        while (random.nextInt(3) == 0) {
            s.append(random.nextBoolean() ? " and " : " or ").append(clause(deep));
        }
        return s.toString();
    }

    private String clause(int deep) {
        int kind = random.nextInt(5);
        if (deep > 0 && kind == 0) {
            return "not " + clause(deep - 1);
        }
        if (deep > 0 && kind == 1) {
            return "(" + condition(deep - 1) + ")";
        }
        return sum(1) + new String[] {"<", "=", ">"}[random.nextInt(3)] + sum(0);
    }
}
