import java.util.ArrayList;
import java.util.List;
import java.util.regex.Matcher;
import java.util.regex.Pattern;

/** The document's words about a text once more, for TextAgreementTest to compare with. */
final class PlainText {
    /** What is thrown at the first fault along the text. */
    private static final class Fault extends RuntimeException {
        private static final long serialVersionUID = 1;
        final int number;

        Fault(int number) {
            this.number = number;
        }
    }

    private static final Pattern TOKEN = Pattern.compile("[a-z]+|[0-9]+|[^ \n]", Pattern.DOTALL);
    private static final List<String> KINDS = List.of("plain", "least", "fewest", "aim", "wait");

    final PlainTown town = new PlainTown();
    int fault = 0;
    int place = -1;
    private final List<String> tokens = new ArrayList<>();
    private final List<Integer> places = new ArrayList<>();
    private int at = 0;
    private boolean law = false;
    private boolean within = false;

    PlainText(String text) {
        Matcher m = TOKEN.matcher(text);
        while (m.find()) {
            tokens.add(m.group());
            places.add(m.start());
        }
        tokens.add("");
        places.add(text.length());
        try {
            while (at < tokens.size() - 1) {
                line();
                fix(";");
            }
        } catch (Fault f) {
            fault = f.number;
            place = places.get(at);
        }
    }

    private void line() {
        switch (tokens.get(at)) {
            case "person" -> person();
            case "thing" -> thing();
            case "owes" -> owes();
            case "law" -> {
                refuseIf(law, 5);
                law = true;
                at++;
                refuseIf(!tokens.get(at).equals("giver") && !tokens.get(at).equals("anyone"), 1);
                town.law = tokens.get(at).equals("anyone") ? 1 : 0;
                at++;
            }
            case "within" -> {
                refuseIf(within, 5);
                within = true;
                at++;
                town.within = number(0, 9);
            }
            default -> throw new Fault(1);
        }
    }

    private void person() {
        refuseIf(town.people == 6, 2);
        at++;
        int sand = 0;
        if (tokens.get(at).equals("sand")) {
            at++;
            sand = number(0, 99);
        }
        int kind = KINDS.indexOf(tokens.get(at));
        refuseIf(kind < 0, 1);
        at++;
        int goal = kind == 3 ? number(0, 11) : kind == 4 ? number(0, 99) : 0;
        town.kind[town.people] = kind;
        town.goal[town.people] = goal;
        town.sand[town.people] = sand;
        town.to[town.people] = -1;
        town.people++;
    }

    private void thing() {
        refuseIf(town.things == 12, 2);
        at++;
        town.weight[town.things] = number(1, 99);
        town.worth[town.things] = number(0, 999);
        town.holder[town.things] = who(false, -1);
        town.wet[town.things] = tokens.get(at).equals("wet");
        at += town.wet[town.things] ? 1 : 0;
        town.things++;
    }

    private void owes() {
        at++;
        int debtor = who(true, -1);
        town.owed[debtor] = number(1, 999);
        if (tokens.get(at).equals("to")) {
            at++;
            town.to[debtor] = who(false, debtor);
        }
    }

    private int who(boolean notOwing, int other) {
        int p = number(0, 9999);
        at--;
        refuseIf(p >= town.people, 3);
        refuseIf(notOwing && town.owed[p] > 0 || p == other, 4);
        at++;
        return p;
    }

    private int number(int least, int most) {
        String token = tokens.get(at);
        refuseIf(!token.matches("[0-9]+"), 1);
        refuseIf(token.length() > 4, 2);
        int value = Integer.parseInt(token);
        refuseIf(value < least || value > most, 2);
        at++;
        return value;
    }

    private void fix(String token) {
        refuseIf(!tokens.get(at).equals(token), 1);
        at++;
    }

    private static void refuseIf(boolean wrong, int number) {
        if (wrong) {
            throw new Fault(number);
        }
    }
}
