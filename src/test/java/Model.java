import java.util.ArrayList;
import java.util.Comparator;
import java.util.List;
import java.util.function.ToLongFunction;
import java.util.regex.Matcher;
import java.util.regex.Pattern;

/**
 * The document once more, as plainly as it can be said and in no way like the program: lists
 * instead of bits, one pledge falling at a time, every set and every amount looked at.
 */
final class Model {
    private static final int INVALID = -1;
    private static final int IMPOSSIBLE = -2;
    private static final int LIMIT = -3;
    private static final int MISSING = -4;
    private static final Pattern COMMAND = Pattern.compile(
            "([ghwc])([0-9]{1,3});|(p)([0-9]{1,3}),([0-9]{1,3}),([0-9]{1,3}),([0-9]{1,3}),([0-9]{1,3});");

    record Pledge(int number, int person, int project, int amount, int kind, int value, int turn, boolean called) {
        Pledge asCalled() {
            return new Pledge(number, person, project, amount, kind, value, turn, true);
        }
    }

    /** What the history records. */
    static final class World {
        List<Integer> goals = new ArrayList<>();
        List<Integer> closed = new ArrayList<>();
        List<Integer> purses = new ArrayList<>();
        List<Integer> paid = new ArrayList<>();
        List<Pledge> pledges = new ArrayList<>();
        int made;
        int withdrawn;
        int money;

        World copy() {
            World copy = new World();
            copy.goals.addAll(goals);
            copy.closed.addAll(closed);
            copy.purses.addAll(purses);
            copy.paid.addAll(paid);
            copy.pledges.addAll(pledges);
            copy.made = made;
            copy.withdrawn = withdrawn;
            copy.money = money;
            return copy;
        }

        Pledge find(int number) {
            for (Pledge p : pledges) {
                if (p.number() == number) {
                    return p;
                }
            }
            return null;
        }

        boolean isProject(int number) {
            return number >= 0 && number < goals.size();
        }

        boolean isPerson(int number) {
            return number >= 0 && number < purses.size();
        }

        List<Pledge> open() {
            List<Pledge> open = new ArrayList<>(pledges);
            open.removeIf(Pledge::called);
            return open;
        }

        /** The greatest set of those given that holds in itself, with the called ones of those given. */
        List<Pledge> stand(List<Pledge> given) {
            List<Pledge> left = new ArrayList<>(given);
            boolean fell = true;
            while (fell) {
                fell = false;
                for (int i = left.size() - 1; i >= 0; i--) {
                    if (!left.get(i).called() && !holds(left.get(i), left)) {
                        left.remove(i);
                        fell = true;
                    }
                }
            }
            return left;
        }

        boolean holds(Pledge pledge, List<Pledge> members) {
            int sum = 0;
            int others = 0;
            boolean takesPart = false;
            int projectSum = 0;
            for (Pledge m : members) {
                if (m.number() != pledge.number() && m.project() == pledge.project()) {
                    sum += m.amount();
                    others++;
                }
                takesPart |= m.person() == pledge.value();
                if (m.project() == pledge.value()) {
                    projectSum += m.amount();
                }
            }
            return switch (pledge.kind()) {
                case 0 -> true;
                case 1 -> sum >= pledge.value();
                case 2 -> others >= pledge.value();
                case 3 -> takesPart;
                default -> projectSum >= goals.get(pledge.value());
            };
        }

        int sumFor(int project, List<Pledge> members) {
            return members.stream().filter(m -> m.project() == project).mapToInt(Pledge::amount).sum();
        }

        boolean reaches(int project, List<Pledge> given) {
            return sumFor(project, stand(given)) >= goals.get(project);
        }

        int waveOf(Pledge pledge) {
            List<Pledge> left = new ArrayList<>(pledges);
            for (int wave = 1; ; wave++) {
                List<Pledge> falling = falling(left);
                if (falling.isEmpty()) {
                    return 0;
                }
                if (falling.contains(pledge)) {
                    return wave;
                }
                left.removeAll(falling);
            }
        }

        int waves() {
            int most = 0;
            for (Pledge p : pledges) {
                most = Math.max(most, waveOf(p));
            }
            return most;
        }

        List<Pledge> falling(List<Pledge> left) {
            List<Pledge> falling = new ArrayList<>();
            for (Pledge p : left) {
                if (!p.called() && !holds(p, left)) {
                    falling.add(p);
                }
            }
            return falling;
        }

        List<Pledge> without(int set) {
            List<Pledge> rest = new ArrayList<>(pledges);
            rest.removeIf(p -> (set >> p.number() & 1) != 0);
            return rest;
        }

        List<Pledge> calledAnd(int set) {
            List<Pledge> members = new ArrayList<>(pledges);
            members.removeIf(p -> !p.called() && (set >> p.number() & 1) == 0);
            return members;
        }

        int errorOfSet(int set) {
            if ((set & ~bits(pledges)) != 0) {
                return INVALID;
            }
            return (set & ~bits(open())) != 0 ? IMPOSSIBLE : 0;
        }

        int project(int goal) {
            if (goal < 1 || goal > 999) {
                return INVALID;
            }
            if (goals.size() == 4) {
                return LIMIT;
            }
            goals.add(goal);
            return goals.size() - 1;
        }

        int person(int purse) {
            if (purse < 0 || purse > 999) {
                return INVALID;
            }
            if (purses.size() == 8) {
                return LIMIT;
            }
            purses.add(purse);
            paid.add(0);
            return purses.size() - 1;
        }

        int pledge(int person, int project, int amount, int kind, int value) {
            if (!isPerson(person) || !isProject(project) || amount < 1 || amount > 999 || kind < 0 || kind > 4) {
                return INVALID;
            }
            boolean fits = switch (kind) {
                case 0 -> value == 0;
                case 1 -> 1 <= value && value <= 999;
                case 2 -> 1 <= value && value <= 11;
                case 3 -> isPerson(value) && value != person;
                default -> isProject(value) && value != project;
            };
            if (!fits) {
                return INVALID;
            }
            int promised = open().stream().filter(p -> p.person() == person).mapToInt(Pledge::amount).sum();
            if (closed.contains(project) || promised + amount > purses.get(person)) {
                return IMPOSSIBLE;
            }
            if (pledges.size() == 12) {
                return LIMIT;
            }
            int number = 0;
            while (find(number) != null) {
                number++;
            }
            pledges.add(new Pledge(number, person, project, amount, kind, value, made, false));
            made++;
            return number;
        }

        int withdraw(int number) {
            Pledge pledge = find(number);
            if (pledge == null) {
                return INVALID;
            }
            if (pledge.called()) {
                return IMPOSSIBLE;
            }
            int stood = bits(stand(pledges));
            pledges.remove(pledge);
            withdrawn++;
            return stood - (stood & bits(stand(pledges)));
        }

        int callIn(int project) {
            if (!isProject(project)) {
                return INVALID;
            }
            if (closed.contains(project) || !reaches(project, pledges)) {
                return IMPOSSIBLE;
            }
            List<Pledge> stand = stand(pledges);
            List<Pledge> after = new ArrayList<>();
            int sum = 0;
            for (Pledge p : pledges) {
                if (p.project() != project) {
                    after.add(p);
                } else if (stand.contains(p)) {
                    after.add(p.asCalled());
                    sum += p.amount();
                    purses.set(p.person(), purses.get(p.person()) - p.amount());
                    paid.set(p.person(), paid.get(p.person()) + p.amount());
                }
            }
            pledges = after;
            closed.add(project);
            money += sum;
            return sum;
        }

        int pledgeOf(int number, int what) {
            Pledge p = find(number);
            if (p == null || what < 0 || what > 9) {
                return INVALID;
            }
            return switch (what) {
                case 0 -> p.person();
                case 1 -> p.project();
                case 2 -> p.amount();
                case 3 -> p.kind();
                case 4 -> p.value();
                case 5 -> p.called() ? 1 : 0;
                case 6 -> stand(pledges).contains(p) ? 1 : 0;
                case 7 -> waveOf(p) == 0 ? MISSING : waveOf(p);
                case 8 -> p.turn();
                default -> p.called() ? IMPOSSIBLE
                        : bits(stand(pledges)) & ~bits(stand(without(1 << number))) & ~(1 << number);
            };
        }

        int projectOf(int project, int what) {
            if (!isProject(project) || what < 0 || what > 9) {
                return INVALID;
            }
            List<Pledge> own = new ArrayList<>(pledges);
            own.removeIf(p -> p.project() != project);
            boolean hasGoal = reaches(project, pledges);
            return switch (what) {
                case 0 -> goals.get(project);
                case 1 -> sumFor(project, pledges);
                case 2 -> sumFor(project, stand(pledges));
                case 3 -> hasGoal ? 1 : 0;
                case 4 -> closed.contains(project) ? 1 : 0;
                case 5 -> bits(own);
                case 6 -> bits(own) & bits(stand(pledges));
                case 7 -> hasGoal ? tip(project) : MISSING;
                case 8 -> hasGoal ? needed(project) : MISSING;
                default -> closed.contains(project) ? MISSING : push(project);
            };
        }

        int tip(int project) {
            List<Pledge> made = new ArrayList<>(pledges);
            made.sort(Comparator.comparing(Pledge::turn));
            int first = 1;
            while (!reaches(project, made.subList(0, first))) {
                first++;
            }
            return made.get(first - 1).number();
        }

        int needed(int project) {
            int needed = 0;
            for (Pledge p : open()) {
                if (!reaches(project, without(1 << p.number()))) {
                    needed += 1 << p.number();
                }
            }
            return needed;
        }

        int push(int project) {
            if (reaches(project, pledges)) {
                return 0;
            }
            for (int amount = 1; ; amount++) {
                List<Pledge> more = new ArrayList<>(pledges);
                more.add(new Pledge(99, 99, project, amount, 0, 0, made, false));
                if (reaches(project, more)) {
                    return amount;
                }
            }
        }

        int personOf(int person, int what) {
            if (!isPerson(person) || what < 0 || what > 5) {
                return INVALID;
            }
            List<Pledge> own = new ArrayList<>(pledges);
            own.removeIf(p -> p.person() != person);
            List<Pledge> ownOpen = new ArrayList<>(own);
            ownOpen.removeIf(Pledge::called);
            List<Pledge> stand = stand(pledges);
            return switch (what) {
                case 0 -> purses.get(person);
                case 1 -> ownOpen.stream().mapToInt(Pledge::amount).sum();
                case 2 -> ownOpen.stream().filter(stand::contains).mapToInt(Pledge::amount).sum();
                case 3 -> paid.get(person);
                case 4 -> bits(own);
                default -> {
                    List<Pledge> topples = new ArrayList<>(stand);
                    topples.removeAll(stand(without(bits(ownOpen))));
                    topples.removeAll(own);
                    yield topples.size();
                }
            };
        }

        int standing(int without) {
            int error = errorOfSet(without);
            return error < 0 ? error : bits(stand(without(without)));
        }

        int setOf(int set, int what) {
            if (what < 0 || what > 2) {
                return INVALID;
            }
            int error = errorOfSet(set);
            if (error < 0) {
                return error;
            }
            return switch (what) {
                case 0 -> falling(calledAnd(set)).isEmpty() ? 1 : 0;
                case 1 -> bits(falling(calledAnd(set)));
                default -> bits(stand(calledAnd(set))) & set;
            };
        }

        int orderAt(int order, int place) {
            if (order < 0 || order > 2 || place < 0) {
                return INVALID;
            }
            List<Pledge> sorted = new ArrayList<>(pledges);
            sorted.sort(Comparator.comparing(Pledge::number));
            sorted.sort(switch (order) {
                case 0 -> Comparator.comparing(Pledge::amount).reversed().thenComparing(Pledge::turn);
                case 1 -> Comparator.comparing((Pledge p) -> waveOf(p) != 0).thenComparing(p -> -waveOf(p))
                        .thenComparing(Pledge::number);
                default -> Comparator.comparing(Pledge::project).thenComparing(Pledge::person)
                        .thenComparing(Pledge::turn);
            });
            return place < sorted.size() ? sorted.get(place).number() : MISSING;
        }

        /** Tells too whether the greatest set is what the document says of it. */
        int setsThatHold() {
            int all = bits(open());
            int sets = 0;
            int union = 0;
            for (int set = 0; set < 4096; set++) {
                if ((set & ~all) == 0 && falling(calledAnd(set)).isEmpty()) {
                    sets++;
                    union |= set;
                }
            }
            Check.due("the union of all sets that hold", bits(stand(pledges)) & all, union);
            return sets;
        }

        private static int bits(List<Pledge> pledges) {
            int bits = 0;
            for (Pledge p : pledges) {
                bits += 1 << p.number();
            }
            return bits;
        }
    }

    World world = new World();
    final List<World> history = new ArrayList<>();
    String text = "";

    /** A change: what was ahead of it is recorded if it returns no error. */
    int change(ToLongFunction<World> call) {
        World before = world.copy();
        int answer = (int) call.applyAsLong(world);
        if (answer >= 0) {
            record(before);
        }
        return answer;
    }

    private void record(World before) {
        history.add(before);
        if (history.size() == 5) {
            history.remove(0);
        }
    }

    int undo() {
        if (history.isEmpty()) {
            return IMPOSSIBLE;
        }
        world = history.remove(history.size() - 1);
        return history.size();
    }

    int count(int what) {
        return switch (what) {
            case 0 -> world.goals.size();
            case 1 -> world.purses.size();
            case 2 -> world.pledges.size();
            case 3 -> world.open().size();
            case 4 -> World.bits(world.stand(world.pledges));
            case 5 -> world.waves();
            case 6 -> world.setsThatHold();
            case 7 -> {
                int projects = 0;
                for (int i = 0; i < world.goals.size(); i++) {
                    projects += world.reaches(i, world.pledges) ? 1 : 0;
                }
                yield projects;
            }
            case 8 -> world.made;
            case 9 -> world.withdrawn;
            case 10 -> world.money;
            case 11 -> history.size();
            case 12 -> text.length();
            default -> INVALID;
        };
    }

    int type(int character) {
        if (character < 32 || character > 126) {
            return INVALID;
        }
        if (text.length() == 80) {
            return LIMIT;
        }
        text += (char) character;
        return text.length();
    }

    int clearText() {
        int length = text.length();
        text = "";
        return length;
    }

    /** Position, reason and cause of the fault, or null; does the commands in the world ahead of it. */
    private int[] obey(World world, int[] commands) {
        Matcher matcher = COMMAND.matcher(text);
        int position = 0;
        while (position < text.length()) {
            matcher.region(position, text.length());
            if (!matcher.lookingAt()) {
                return new int[] {position, 1, MISSING};
            }
            int answer = obey(world, matcher);
            if (answer < 0) {
                return new int[] {position, 2, answer};
            }
            commands[0]++;
            position = matcher.end();
        }
        return null;
    }

    private int obey(World world, Matcher command) {
        if (command.group(3) != null) {
            return world.pledge(number(command, 4), number(command, 5), number(command, 6),
                    number(command, 7), number(command, 8));
        }
        int number = number(command, 2);
        return switch (command.group(1)) {
            case "g" -> world.project(number);
            case "h" -> world.person(number);
            case "w" -> world.withdraw(number);
            default -> world.callIn(number);
        };
    }

    private static int number(Matcher command, int group) {
        return Integer.parseInt(command.group(group));
    }

    int fault(int what) {
        if (what < 0 || what > 2) {
            return INVALID;
        }
        int[] fault = obey(world.copy(), new int[1]);
        return fault == null ? MISSING : fault[what];
    }

    int play() {
        World after = world.copy();
        int[] commands = new int[1];
        if (obey(after, commands) != null) {
            return IMPOSSIBLE;
        }
        record(world);
        world = after;
        return commands[0];
    }
}
