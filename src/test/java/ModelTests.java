/** Long runs of calls on the program and on the model of it: each call must have the same answer from both. */
final class ModelTests {
    private static final int OBJECTS = 600;
    private static final int CALLS = 512;
    private static final int[] ODD = {-1, -2, 4, 8, 12, 13, 31, 32, 999, 1000, 4096, Integer.MIN_VALUE, Integer.MAX_VALUE};

    private long seed;
    private final PledgeTips tips = new PledgeTips();
    private final Model model = new Model();
    private final StringBuilder calls = new StringBuilder();
    private final int run;
    private int made = 0;

    private ModelTests(int run) {
        this.run = run;
        this.seed = run * 7919L + 17;
    }

    static void run() {
        for (int run = 0; run < OBJECTS; run++) {
            new ModelTests(run).play();
        }
    }

    /** The same numbers in every run of the tests. */
    private int below(int bound) {
        seed = seed * 6364136223846793005L + 1442695040888963407L;
        return (int) ((seed >>> 33) % bound);
    }

    private int between(int low, int high) {
        return low + below(high - low + 1);
    }

    /** Now and then a number that is odd for nearly every argument. */
    private int maybeOdd(int number) {
        return below(30) == 0 ? ODD[below(ODD.length)] : number;
    }

    private void play() {
        int projects = between(1, 4);
        int persons = between(1, 8);
        for (int i = 0; i < projects; i++) {
            project(between(1, 40));
        }
        for (int i = 0; i < persons; i++) {
            person(between(10, run % 3 == 0 ? 60 : 400));
        }
        int failed = Check.failures();
        while (made < CALLS && failed == Check.failures()) {
            step();
        }
        if (failed != Check.failures()) {
            System.out.println("run " + run + ": " + calls);
        }
    }

    private void step() {
        int kindOfCall = below(100);
        if (kindOfCall < 26) {
            pledge();
        } else if (kindOfCall < 34) {
            withdraw();
        } else if (kindOfCall < 38) {
            callIn();
        } else if (kindOfCall < 39) {
            project(maybeOdd(between(1, 60)));
        } else if (kindOfCall < 40) {
            person(maybeOdd(between(0, 300)));
        } else if (kindOfCall < 44) {
            undo();
        } else if (kindOfCall < 46) {
            text();
        } else {
            question();
        }
    }

    private void told(String call, int got, int want) {
        made++;
        calls.append(call).append("; ");
        Check.due("run " + run + ", call " + made + ", " + call, got, want);
    }

    private void project(int goal) {
        told("project(" + goal + ")", tips.project(goal), model.change(w -> w.project(goal)));
    }

    private void person(int purse) {
        told("person(" + purse + ")", tips.person(purse), model.change(w -> w.person(purse)));
    }

    private int[] aPledge() {
        int person = below(Math.max(1, model.world.purses.size()));
        int project = below(Math.max(1, model.world.goals.size()));
        int kind = below(5);
        int value = switch (kind) {
            case 0 -> 0;
            case 1 -> between(1, 30);
            case 2 -> between(1, 4);
            case 3 -> below(Math.max(1, model.world.purses.size()));
            default -> below(Math.max(1, model.world.goals.size()));
        };
        return new int[] {person, project, between(1, run % 2 == 0 ? 15 : 40), kind, value};
    }

    private void pledge() {
        int[] p = aPledge();
        for (int i = 0; i < p.length; i++) {
            p[i] = maybeOdd(p[i]);
        }
        told("pledge(" + p[0] + ", " + p[1] + ", " + p[2] + ", " + p[3] + ", " + p[4] + ")",
                tips.pledge(p[0], p[1], p[2], p[3], p[4]), model.change(w -> w.pledge(p[0], p[1], p[2], p[3], p[4])));
    }

    private void withdraw() {
        int pledge = maybeOdd(below(12));
        told("withdraw(" + pledge + ")", tips.withdraw(pledge), model.change(w -> w.withdraw(pledge)));
    }

    private void callIn() {
        int project = maybeOdd(below(4));
        told("callIn(" + project + ")", tips.callIn(project), model.change(w -> w.callIn(project)));
    }

    private void undo() {
        told("undo()", tips.undo(), model.undo());
    }

    private void text() {
        if (below(5) != 0) {
            told("clearText()", tips.clearText(), model.clearText());
        }
        String commands = commands();
        for (int i = 0; i < commands.length() && made < CALLS; i++) {
            int sign = below(400) == 0 ? between(20, 140) : commands.charAt(i);
            told("type(" + sign + ")", tips.type(sign), model.type(sign));
        }
        for (int i = -1; i < 4 && made < CALLS; i++) {
            int what = i;
            told("fault(" + what + ")", tips.fault(what), model.fault(what));
        }
        if (made < CALLS) {
            told("play()", tips.play(), model.play());
        }
    }

    private String commands() {
        StringBuilder text = new StringBuilder();
        for (int i = below(9); i > 0; i--) {
            switch (below(8)) {
                case 0 -> text.append('g').append(between(1, 60));
                case 1 -> text.append('h').append(between(0, 200));
                case 2 -> text.append('w').append(below(10));
                case 3 -> text.append("c0").append(below(3));
                default -> {
                    int[] p = aPledge();
                    text.append('p').append(p[0]).append(',').append(p[1]).append(',').append(p[2]).append(',')
                            .append(p[3]).append(',').append(p[4]);
                }
            }
            text.append(below(60) == 0 ? "" : ";");
        }
        return text.toString();
    }

    private void question() {
        int number = maybeOdd(below(12));
        switch (below(8)) {
            case 0, 1 -> {
                int what = between(-1, 10);
                told("pledgeOf(" + number + ", " + what + ")", tips.pledgeOf(number, what),
                        model.world.pledgeOf(number, what));
            }
            case 2 -> askProject(maybeOdd(below(4)), between(-1, 10));
            case 3 -> askProject(below(4), between(7, 9));
            case 4 -> {
                int person = maybeOdd(below(8));
                int what = between(-1, 6);
                told("personOf(" + person + ", " + what + ")", tips.personOf(person, what),
                        model.world.personOf(person, what));
            }
            case 5 -> askSet();
            case 6 -> {
                int order = between(-1, 3);
                int place = between(-1, 12);
                told("orderAt(" + order + ", " + place + ")", tips.orderAt(order, place),
                        model.world.orderAt(order, place));
            }
            default -> {
                int what = between(-1, 13);
                told("count(" + what + ")", tips.count(what), model.count(what));
            }
        }
    }

    private void askProject(int project, int what) {
        told("projectOf(" + project + ", " + what + ")", tips.projectOf(project, what),
                model.world.projectOf(project, what));
    }

    private void askSet() {
        int all = 0;
        for (Model.Pledge p : model.world.pledges) {
            all |= below(8) != 0 && p.called() ? 0 : 1 << p.number();
        }
        int set = maybeOdd(below(20) == 0 ? below(4096) : all & below(4096));
        int what = between(-1, 3);
        told("standing(" + set + ")", tips.standing(set), model.world.standing(set));
        if (made < CALLS) {
            told("setOf(" + set + ", " + what + ")", tips.setOf(set, what), model.world.setOf(set, what));
        }
    }
}
