/** What all tests share: counting wrong answers, and putting a text into an object. */
final class Check {
    private final String name;
    private int checks = 0;
    private int wrong = 0;

    Check(String name) {
        this.name = name;
    }

    void due(String what, long got, long want) {
        checks++;
        if (got != want) {
            wrong++;
            System.out.println(name + ": " + what + " answered " + got + ", due is " + want);
        }
    }

    int wrongs() {
        return wrong;
    }

    /** Ends the test's run, with 1 if an answer was wrong. */
    void end() {
        System.out.println(name + ": " + checks + " answers, " + wrong + " wrong");
        if (wrong != 0) {
            System.exit(1);
        }
    }

    static void type(PrivateLinkRouting x, String text) {
        for (int i = 0; i < text.length(); i++) {
            x.append(text.charAt(i));
        }
    }

    /** A new object that has read the text; its history has one state. */
    static PrivateLinkRouting loaded(String text) {
        PrivateLinkRouting x = new PrivateLinkRouting();
        type(x, text);
        if (x.load() < 0) {
            throw new IllegalArgumentException("no network: " + text);
        }
        return x;
    }

    /** The same, with everything flooded. */
    static PrivateLinkRouting settled(String text) {
        PrivateLinkRouting x = loaded(text);
        x.settle();
        return x;
    }
}
