import java.util.Random;

/** Texts by a random source: most of them good ones, some spoiled. */
final class TextMaker {
    private static final String[] SPOILS = {";", "=", "+", "-", "*", "/", "<", "(", ")", " if ", " then ", " else ",
        " puppet ", " a ", " zz ", " 10 ", " 12345 ", " abcdefghi ", "?", "A", " 1 ", " pulls ", " string ", " child ",
        " order = 1;", " 7"};

    private final Random random;
    private final String[] vars;
    private final StringBuilder text = new StringBuilder();

    private TextMaker(Random random, String[] vars) {
        this.random = random;
        this.vars = vars;
    }

    static String text(Random random, String[] vars) {
        TextMaker maker = new TextMaker(random, vars);
        maker.tell();
        String text = maker.text.toString();
        if (random.nextInt(4) == 0) {
            text = spoiled(random, text);
        }
        return text.length() > 2000 ? text.substring(0, 2000) : text;
    }

    private static String spoiled(Random random, String text) {
        String spoiled = text;
        for (int i = 1 + random.nextInt(2); i > 0; i--) {
            int at = random.nextInt(spoiled.length() + 1);
            int to = Math.min(spoiled.length(), at + random.nextInt(4));
            String by = random.nextInt(5) == 0 ? "" : SPOILS[random.nextInt(SPOILS.length)];
            spoiled = spoiled.substring(0, at) + by + spoiled.substring(to);
        }
        return spoiled;
    }

    private void tell() {
        int puppets = random.nextInt(8) == 0 ? random.nextInt(3) : 3 + random.nextInt(3);
        int strings = puppets == 0 ? 0 : 1 + random.nextInt(7);
        int children = random.nextInt(8);
        int faulty = random.nextInt(12);
        for (int i = 0; i < puppets + (faulty == 0 ? 3 : 0); i++) {
            text.append("puppet ").append((char) ('a' + i)).append(' ').append(random.nextInt(10)).append(' ')
                .append(random.nextInt(10)).append("; ");
        }
        for (int i = 0; i < strings + (faulty == 1 ? 4 : 0); i++) {
            int move = random.nextInt(3) == 0 ? random.nextInt(10) : random.nextInt(4);
            text.append("string ").append((char) ('m' + i - (faulty == 2 && i == 3 ? 1 : 0))).append(' ')
                .append((char) ('a' + random.nextInt(Math.max(1, puppets + (faulty == 3 ? 1 : 0)))))
                .append(' ').append(random.nextInt(faulty == 4 ? 4 : 3)).append(random.nextBoolean() ? " -" : " ")
                .append(move).append(' ').append(random.nextInt(4)).append(";");
        }
        for (int i = 0; i < children; i++) {
            text.append("child ").append(random.nextInt(10)).append(';');
        }
        laws();
        if (random.nextInt(3) == 0) {
            text.append("storm ").append(random.nextInt(101)).append(';');
        }
        if (random.nextInt(2) == 0) {
            text.append("seed ").append(random.nextInt(10000)).append(';');
        }
    }

    private void laws() {
        if (random.nextInt(3) != 0) {
            law("order", random.nextInt(3) != 0 ? "1 + pulls*0+" : "");
        }
        if (random.nextInt(8) != 0) {
            if (random.nextBoolean()) {
                text.append("verdict = if pulls < ").append(random.nextInt(4)).append(" then 0 else ");
                branch();
                sum(0);
                text.append(';');
            } else {
                law("verdict", "");
            }
        }
        if (random.nextInt(4) != 0) {
            law("votes", random.nextBoolean() ? "seat +" : "");
        }
    }

    private void law(String name, String with) {
        text.append(name).append(" = ");
        for (int ifs = random.nextInt(5); ifs > 0; ifs -= 2) {
            branch();
        }
        text.append(with);
        sum(0);
        text.append(';');
    }

    private void branch() {
        text.append("if ");
        sum(0);
        text.append(" < ");
        sum(0);
        text.append(" then ");
        sum(0);
        text.append(" else ");
    }

    private void sum(int depth) {
        product(depth);
        for (int i = random.nextInt(3); i > 1; i--) {
            text.append(random.nextBoolean() ? " + " : "-");
            product(depth);
        }
    }

    private void product(int depth) {
        unit(depth);
        for (int i = random.nextInt(4); i > 2; i--) {
            text.append(random.nextInt(3) == 0 ? "/" : " * ");
            unit(depth);
        }
    }

    private void unit(int depth) {
        int kind = random.nextInt(depth < 7 ? 8 : 7);
        if (kind < 3) {
            text.append(random.nextInt(10) == 0 ? random.nextInt(10000) : random.nextInt(6));
        } else if (kind < 7) {
            text.append(vars[random.nextInt(vars.length)]);
        } else {
            text.append('(');
            sum(depth + 1);
            text.append(')');
        }
    }
}
