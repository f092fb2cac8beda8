import java.util.Random;

/** Random texts for the law: many right ones, many that are nearly right. */
final class Texts {
    private Texts() {
    }

    static String text(Random random) {
        StringBuilder s = new StringBuilder();
        int lines = 1 + random.nextInt(3);
        for (int i = 0; i < lines; i++) {
            if (i > 0) s.append(';');
            join(s, random, 0, 3);
            if (random.nextInt(2) == 0) {
                s.append('?');
                join(s, random, 0, 3);
            }
        }
        int spoil = random.nextInt(5);
        if (spoil == 0) {
            String signs = "dlgcwh0123456789+-*/%<=>&|!()?; x";
            s.setCharAt(random.nextInt(s.length()), signs.charAt(random.nextInt(signs.length())));
        } else if (spoil == 1) {
            s.setLength(random.nextInt(s.length()));
        }
        return s.toString();
    }

    private static final String[] SIGNS = {"|", "&", "<=>", "+-", "*/%"};

    private static void join(StringBuilder s, Random random, int level, int left) {
        if (level == 5) {
            operand(s, random, left);
            return;
        }
        join(s, random, level + 1, left);
        int more = random.nextInt(level > 2 ? 3 : 5) == 0 ? 1 : 0;
        for (int i = 0; i < more; i++) {
            String signs = SIGNS[level];
            s.append(signs.charAt(random.nextInt(signs.length())));
            join(s, random, level + 1, left);
        }
    }

    private static void operand(StringBuilder s, Random random, int left) {
        int kind = random.nextInt(left > 0 ? 12 : 8);
        if (kind < 3) {
            s.append(random.nextInt(random.nextInt(4) == 0 ? 10000 : 5));
        } else if (kind < 8) {
            s.append("dddllgcwhh".charAt(random.nextInt(10)));
        } else if (kind < 9) {
            s.append('!');
            operand(s, random, left - 1);
        } else if (kind < 10) {
            s.append('-');
            operand(s, random, left - 1);
        } else {
            s.append('(');
            join(s, random, 0, left - 1);
            s.append(')');
        }
    }
}
