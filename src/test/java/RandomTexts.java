import java.util.Random;

/** Draws texts of counties and seasons, most of them without a fault. */
final class RandomTexts {
    private static final String[] WORDS = {"land", "by", "wind", "noon", "law", "kite", "at", "size", "string", "needs",
        "veers", "crop", "wants", "tenant", "of", "hour", "walk", "cut", "mend", "any", "when", "purse", "ripe", "up",
        "loop", "end", "stop", "abcdefgh", "abcdefghi", "a", "b", "c", "0", "1", "9", "10", "99", "100", "9999",
        "12345", "00001", "0007", ";", "<", ">", "=", "A", "-", "\t", "{"};

    private final Random random;
    private int steps;

    RandomTexts(Random random) {
        this.random = random;
    }

    private int to(int n) {
        return random.nextInt(n);
    }

    private boolean once(int n) {
        return random.nextInt(n) == 0;
    }

    private String blank() {
        return once(6) ? "" : once(5) ? "\n" : once(9) ? "  " : " ";
    }

    private String some(String... texts) {
        return texts[to(texts.length)];
    }

    static String kiteName(int i) {
        return new String[] {"a", "bb", "kit", "landing", "e", "zzzzzzzz"}[i];
    }

    static String cropName(int i) {
        return "corn" + (char) ('a' + i);
    }

    String county() {
        StringBuilder text = new StringBuilder();
        int wide = 1 + to(9);
        int deep = 1 + to(7);
        if (once(3)) {
            wide = 9;
            deep = 7;
        }
        text.append("land ").append(wide).append(blank()).append("by ").append(deep).append(';');
        int kites = once(5) ? 6 : to(6);
        int crops = once(4) ? 8 : to(5);
        int tenants = kites == 0 ? 0 : once(4) ? 6 : to(5);
        if (once(2)) {
            text.append("noon ").append(to(12)).append(blank()).append(";\n");
        }
        if (once(2)) {
            text.append("law ").append(to(3)).append(";");
        }
        for (int i = to(14); i > 0; i--) {
            text.append("wind ").append(to(12)).append(' ').append(to(8)).append(' ').append(to(4)).append(';');
        }
        for (int i = 0; i < kites; i++) {
            text.append("kite ").append(kiteName(i)).append(" at ").append(to(wide)).append(' ').append(to(deep));
            text.append(once(2) ? "" : " size " + to(3)).append(once(3) ? "" : " string " + to(10));
            text.append(once(2) ? "" : " needs " + to(4)).append(once(2) ? "" : " veers " + to(8)).append(";");
        }
        for (int i = 0; i < crops; i++) {
            text.append("crop ").append(cropName(i)).append(" at ").append(to(wide)).append(' ').append(to(deep));
            text.append(" wants ").append(once(3) ? 1 + to(99) : 1 + to(6)).append(";");
        }
        for (int i = 0; i < tenants; i++) {
            text.append("tenant ten").append((char) ('a' + i)).append(" at ").append(to(wide)).append(' ');
            text.append(to(deep)).append(" of ").append(kiteName(to(kites))).append(";");
        }
        return text.toString();
    }

    String seasons(int kites, int crops) {
        steps = 0;
        StringBuilder text = new StringBuilder();
        body(text, 0, kites, crops, 1 + to(8));
        return text.toString();
    }

    private void body(StringBuilder text, int depth, int kites, int crops, int many) {
        for (int i = 0; i < many && steps < 31; i++) {
            steps++;
            String kite = kites == 0 ? "nobody" : kiteName(to(kites));
            switch (to(depth < 3 || once(40) ? 11 : 8)) {
                case 0: case 1: text.append("hour ").append(1 + to(3)); break;
                case 2: text.append("walk ").append(kite).append(' ').append(1 + to(4)); break;
                case 3: text.append("cut ").append(kite); break;
                case 4: text.append("mend ").append(kite); break;
                case 5: case 6: text.append("any ").append(kite); break;
                case 7: text.append(once(4) ? "stop" : "hour 1"); break;
                case 8:
                    text.append("when ").append(test(kite, crops)).append(';');
                    body(text, depth + 1, kites, crops, to(4));
                    text.append("end");
                    break;
                default:
                    text.append("loop ").append(once(2) ? 1 + to(99) : 1 + to(5)).append(";");
                    body(text, depth + 1, kites, crops, to(4));
                    text.append("end");
                    break;
            }
            text.append(blank()).append(';');
        }
    }

    private String test(String kite, int crops) {
        if (crops > 0 && once(3)) {
            return "ripe " + cropName(to(crops));
        }
        if (once(2)) {
            return "up " + kite;
        }
        return "purse " + kite + blank() + some("<", ">", "=") + blank() + to(once(2) ? 10 : 200);
    }

    /** The text with a token or a sign of it another one, gone, or twice. */
    String spoiled(String text) {
        if (text.isEmpty()) {
            return some(WORDS);
        }
        int at = to(text.length());
        switch (to(5)) {
            case 0: return text.substring(0, at) + some(WORDS) + text.substring(at);
            case 1: return text.substring(0, at) + text.substring(Math.min(text.length(), at + 1 + to(3)));
            case 2: return text.substring(0, at);
            case 3: return text.substring(0, at) + ' ' + some(WORDS) + ' ' + text.substring(Math.min(text.length(), at + 1 + to(4)));
            default:
                int behind = text.indexOf(';', at);
                return behind < 0 ? text : text.substring(0, behind + 1) + some(WORDS) + ' ' + text.substring(behind + 1);
        }
    }
}
